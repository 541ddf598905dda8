section
theorem t_X12_setOut (d : Nat) (h : Hp_) (w : Wf h) (x1 : Int32) (x2 : Int32) (K : Hp_ → Prop) (k : vp_in x1 12 ∧ (Ci (m_X12_walkOf (d + 0) 0 0) [.ref 1, .int (h_i h 209 x1.toNatClampNeg), .int x2] h (fun r4 h2 => Wf h2 ∧ ((¬ r4 = 0 → vp_in x1 12 ∧ (vp_in x1 12 ∧ (vp_in x1 12 ∧ (K (h_im (h_im (h_im h2 209 x1.toNatClampNeg (-1)) 210 x1.toNatClampNeg x2) 211 x1.toNatClampNeg ((h_i h2 1 0) + r4)))))) ∧ (r4 = 0 → K h2))))) : Cv (m_X12_setOut (d + 1) 0 0) [.ref 1, .int x1, .int x2] h K := by
  refine Ct.of (fun _ _ _ => trivial) rfl (Nat.le_of_ble_eq_true rfl) ?_
  show AW (m_X12_setOut (d + 1) 0 0) 0 0 0 [(0, .ref 1), (1, .int x1), (2, .int x2)] [] h (kV K)
  refine aw_aload_n (i := 0) rfl d_X12_setOut_0 0 rfl ?_
  refine aw_aload_n (i := 0) rfl d_X12_setOut_1 0 rfl ?_
  refine aw_getr (k0 := 13) kc_12 (ws_1 w) (Nat.le_of_ble_eq_true rfl) tw_1755 d_X12_setOut_2 rfl (wr_1_13 w) ?_
  refine aw_iload_n (i := 1) rfl d_X12_setOut_5 1 rfl ?_
  obtain ⟨b1, k⟩ := k
  refine aw_iald (ws_209 w) b1 d_X12_setOut_6 ?_
  refine aw_iload_n (i := 2) rfl d_X12_setOut_7 2 rfl ?_
  refine aw_Vi 1 [.int (h_i h 209 x1.toNatClampNeg), .int x2] [] d_X12_setOut_8 (cV_X12_walkOf (d + 0) 0 0) kc_12 (ws_1 w) tw_2150 rfl (rr0 (Nat.le_of_ble_eq_true rfl) (Nat.le_of_ble_eq_true rfl)) (Nat.le_of_ble_eq_true rfl) xs0 k (fun r4 h2 kk => ?_)
  obtain ⟨w3, k⟩ := kk
  refine aw_istore_n (i := 3) rfl [(0, .ref 1), (1, .int x1), (2, .int x2), (3, .int r4)] d_X12_setOut_11 (Nat.le_of_ble_eq_true rfl) rfl rfl ?_
  refine aw_iload_n (i := 3) rfl d_X12_setOut_12 3 rfl ?_
  refine aw_if_ne (tgt := 17) d_X12_setOut_13 rfl (fun c5 => ?_) (fun c5 => ?_)
  · have k := k.1 c5
    refine aw_aload_n (i := 0) rfl d_X12_setOut_17 0 rfl ?_
    refine aw_getr (k0 := 13) kc_12 (ws_1 w3) (Nat.le_of_ble_eq_true rfl) tw_1755 d_X12_setOut_18 rfl (wr_1_13 w3) ?_
    refine aw_iload_n (i := 1) rfl d_X12_setOut_21 1 rfl ?_
    refine aw_iconst (v := (-1)) d_X12_setOut_22 ic_m1 ?_
    obtain ⟨b6, k⟩ := k
    refine aw_iast (ws_209 w3) b6 d_X12_setOut_23 ?_
    refine aw_aload_n (i := 0) rfl d_X12_setOut_24 0 rfl ?_
    refine aw_getr (k0 := 14) kc_12 (ws_1 w3) (Nat.le_of_ble_eq_true rfl) tw_1756 d_X12_setOut_25 rfl (wr_1_14 w3) ?_
    refine aw_iload_n (i := 1) rfl d_X12_setOut_28 1 rfl ?_
    refine aw_iload_n (i := 2) rfl d_X12_setOut_29 2 rfl ?_
    obtain ⟨b7, k⟩ := k
    refine aw_iast (ws_210 w3) b7 d_X12_setOut_30 ?_
    refine aw_aload_n (i := 0) rfl d_X12_setOut_31 0 rfl ?_
    refine aw_getr (k0 := 15) kc_12 (ws_1 w3) (Nat.le_of_ble_eq_true rfl) tw_1757 d_X12_setOut_32 rfl (wr_1_15 w3) ?_
    refine aw_iload_n (i := 1) rfl d_X12_setOut_35 1 rfl ?_
    refine aw_aload_n (i := 0) rfl d_X12_setOut_36 0 rfl ?_
    refine aw_geti (k0 := 0) kc_12 (ws_1 w3) (Nat.le_of_ble_eq_true rfl) tw_1742 d_X12_setOut_37 rfl ?_
    refine aw_vi (v2 := (h_i h2 1 0)) (rfl) ?_
    refine aw_iload_n (i := 3) rfl d_X12_setOut_40 3 rfl ?_
    refine aw_iadd d_X12_setOut_41 ?_
    obtain ⟨b8, k⟩ := k
    refine aw_iast (ws_211 w3) b8 d_X12_setOut_42 ?_
    exact aw_vret rfl d_X12_setOut_43 ⟨Nat.le_refl _, Nat.le_refl _⟩ ⟨rfl, k⟩
  · have k := k.2 c5
    exact aw_vret rfl d_X12_setOut_16 ⟨Nat.le_refl _, Nat.le_refl _⟩ ⟨rfl, k⟩
theorem t_X12_free (d : Nat) (h : Hp_) (w : Wf h) (x1 : Int32) (K : Hp_ → Prop) (k : vp_in x1 12 ∧ (vp_in x1 12 ∧ (vp_in x1 12 ∧ (vp_in x1 12 ∧ (vp_in x1 12 ∧ (vp_in x1 12 ∧ (AW (m_X12_free (d + 0) 0 0) 0 0 42 [(0, .ref 1), (1, .int x1), (2, .int 0)] [] (h_im (h_im (h_im (h_im (h_im h 208 x1.toNatClampNeg 0) 209 x1.toNatClampNeg (h_i h 206 x1.toNatClampNeg)) 210 x1.toNatClampNeg (-1)) 211 x1.toNatClampNeg (-1)) 213 x1.toNatClampNeg (-1)) (kV K)))))))) : Cv (m_X12_free (d + 0) 0 0) [.ref 1, .int x1] h K := by
  refine Ct.of (fun _ _ _ => trivial) rfl (Nat.le_of_ble_eq_true rfl) ?_
  show AW (m_X12_free (d + 0) 0 0) 0 0 0 [(0, .ref 1), (1, .int x1)] [] h (kV K)
  refine aw_aload_n (i := 0) rfl d_X12_free_0 0 rfl ?_
  refine aw_getr (k0 := 12) kc_12 (ws_1 w) (Nat.le_of_ble_eq_true rfl) tw_1754 d_X12_free_1 rfl (wr_1_12 w) ?_
  refine aw_iload_n (i := 1) rfl d_X12_free_4 1 rfl ?_
  refine aw_iconst (v := 0) d_X12_free_5 ic_0 ?_
  obtain ⟨b1, k⟩ := k
  refine aw_iast (ws_208 w) b1 d_X12_free_6 ?_
  refine aw_aload_n (i := 0) rfl d_X12_free_7 0 rfl ?_
  refine aw_getr (k0 := 13) kc_12 (ws_1 w) (Nat.le_of_ble_eq_true rfl) tw_1755 d_X12_free_8 rfl (wr_1_13 w) ?_
  refine aw_iload_n (i := 1) rfl d_X12_free_11 1 rfl ?_
  refine aw_aload_n (i := 0) rfl d_X12_free_12 0 rfl ?_
  refine aw_getr (k0 := 10) kc_12 (ws_1 w) (Nat.le_of_ble_eq_true rfl) tw_1752 d_X12_free_13 rfl (wr_1_10 w) ?_
  refine aw_iload_n (i := 1) rfl d_X12_free_16 1 rfl ?_
  obtain ⟨b2, k⟩ := k
  refine aw_iald (ws_206 w) b2 d_X12_free_17 ?_
  refine aw_vi (v2 := (h_i h 206 x1.toNatClampNeg)) (rfl) ?_
  obtain ⟨b3, k⟩ := k
  refine aw_iast (ws_209 w) b3 d_X12_free_18 ?_
  refine aw_aload_n (i := 0) rfl d_X12_free_19 0 rfl ?_
  refine aw_getr (k0 := 14) kc_12 (ws_1 w) (Nat.le_of_ble_eq_true rfl) tw_1756 d_X12_free_20 rfl (wr_1_14 w) ?_
  refine aw_iload_n (i := 1) rfl d_X12_free_23 1 rfl ?_
  refine aw_iconst (v := (-1)) d_X12_free_24 ic_m1 ?_
  obtain ⟨b4, k⟩ := k
  refine aw_iast (ws_210 w) b4 d_X12_free_25 ?_
  refine aw_aload_n (i := 0) rfl d_X12_free_26 0 rfl ?_
  refine aw_getr (k0 := 15) kc_12 (ws_1 w) (Nat.le_of_ble_eq_true rfl) tw_1757 d_X12_free_27 rfl (wr_1_15 w) ?_
  refine aw_iload_n (i := 1) rfl d_X12_free_30 1 rfl ?_
  refine aw_iconst (v := (-1)) d_X12_free_31 ic_m1 ?_
  obtain ⟨b5, k⟩ := k
  refine aw_iast (ws_211 w) b5 d_X12_free_32 ?_
  refine aw_aload_n (i := 0) rfl d_X12_free_33 0 rfl ?_
  refine aw_getr (k0 := 17) kc_12 (ws_1 w) (Nat.le_of_ble_eq_true rfl) tw_1759 d_X12_free_34 rfl (wr_1_17 w) ?_
  refine aw_iload_n (i := 1) rfl d_X12_free_37 1 rfl ?_
  refine aw_iconst (v := (-1)) d_X12_free_38 ic_m1 ?_
  obtain ⟨b6, k⟩ := k
  refine aw_iast (ws_213 w) b6 d_X12_free_39 ?_
  refine aw_iconst (v := 0) d_X12_free_40 ic_0 ?_
  refine aw_istore_n (i := 2) rfl [(0, .ref 1), (1, .int x1), (2, .int 0)] d_X12_free_41 (Nat.le_of_ble_eq_true rfl) rfl rfl ?_
  exact k
theorem t_X12_free_42 (d : Nat) (h : Hp_) (w : Wf h) (x1 : Int32) (x2 : Int32) (K : Hp_ → Prop) (k : ((h_i h 1 80) ≤ x2 → K h) ∧ (¬ (h_i h 1 80) ≤ x2 → vp_in x2 300 ∧ ((¬ (h_i h 255 x2.toNatClampNeg) = x1 → AW (m_X12_free (d + 0) 0 0) 0 0 42 [(0, .ref 1), (1, .int x1), (2, .int (x2 + 1))] [] h (kV K)) ∧ ((h_i h 255 x2.toNatClampNeg) = x1 → vp_in x2 300 ∧ ((¬ (h_i h 258 x2.toNatClampNeg) = 1 → AW (m_X12_free (d + 0) 0 0) 0 0 42 [(0, .ref 1), (1, .int x1), (2, .int (x2 + 1))] [] h (kV K)) ∧ ((h_i h 258 x2.toNatClampNeg) = 1 → vp_in x2 300 ∧ ((¬ (h_i h 260 x2.toNatClampNeg) = (-1) → AW (m_X12_free (d + 0) 0 0) 0 0 42 [(0, .ref 1), (1, .int x1), (2, .int (x2 + 1))] [] h (kV K)) ∧ ((h_i h 260 x2.toNatClampNeg) = (-1) → vp_in x2 300 ∧ (AW (m_X12_free (d + 0) 0 0) 0 0 42 [(0, .ref 1), (1, .int x1), (2, .int (x2 + 1))] [] (h_im h 260 x2.toNatClampNeg (h_i h 1 0)) (kV K)))))))))) : AW (m_X12_free (d + 0) 0 0) 0 0 42 [(0, .ref 1), (1, .int x1), (2, .int x2)] [] h (kV K) := by
  refine aw_iload_n (i := 2) rfl d_X12_free_42 2 rfl ?_
  refine aw_aload_n (i := 0) rfl d_X12_free_43 0 rfl ?_
  refine aw_geti (k0 := 80) kc_12 (ws_1 w) (Nat.le_of_ble_eq_true rfl) tw_1822 d_X12_free_44 rfl ?_
  refine aw_icmp_ge (tgt := 96) d_X12_free_47 rfl (fun c7 => ?_) (fun c7 => ?_)
  · have k := k.1 c7
    exact aw_vret rfl d_X12_free_96 ⟨Nat.le_refl _, Nat.le_refl _⟩ ⟨rfl, k⟩
  · have k := k.2 c7
    refine aw_aload_n (i := 0) rfl d_X12_free_50 0 rfl ?_
    refine aw_getr (k0 := 72) kc_12 (ws_1 w) (Nat.le_of_ble_eq_true rfl) tw_1814 d_X12_free_51 rfl (wr_1_72 w) ?_
    refine aw_iload_n (i := 2) rfl d_X12_free_54 2 rfl ?_
    obtain ⟨b8, k⟩ := k
    refine aw_iald (ws_255 w) b8 d_X12_free_55 ?_
    refine aw_iload_n (i := 1) rfl d_X12_free_56 1 rfl ?_
    refine aw_icmp_ne (tgt := 90) d_X12_free_57 rfl (fun c9 => ?_) (fun c9 => ?_)
    · have k := k.1 c9
      refine aw_iinc (v := (x2 + 1)) [(0, .ref 1), (1, .int x1), (2, .int (x2 + 1))] d_X12_free_90 2 rfl rfl (Nat.le_of_ble_eq_true rfl) rfl rfl ?_
      refine aw_goto (tgt := 42) d_X12_free_93 rfl ?_
      exact k
    · have k := k.2 c9
      refine aw_aload_n (i := 0) rfl d_X12_free_60 0 rfl ?_
      refine aw_getr (k0 := 75) kc_12 (ws_1 w) (Nat.le_of_ble_eq_true rfl) tw_1817 d_X12_free_61 rfl (wr_1_75 w) ?_
      refine aw_iload_n (i := 2) rfl d_X12_free_64 2 rfl ?_
      obtain ⟨b10, k⟩ := k
      refine aw_iald (ws_258 w) b10 d_X12_free_65 ?_
      refine aw_iconst (v := 1) d_X12_free_66 ic_1 ?_
      refine aw_icmp_ne (tgt := 90) d_X12_free_67 rfl (fun c11 => ?_) (fun c11 => ?_)
      · have k := k.1 c11
        refine aw_iinc (v := (x2 + 1)) [(0, .ref 1), (1, .int x1), (2, .int (x2 + 1))] d_X12_free_90 2 rfl rfl (Nat.le_of_ble_eq_true rfl) rfl rfl ?_
        refine aw_goto (tgt := 42) d_X12_free_93 rfl ?_
        exact k
      · have k := k.2 c11
        refine aw_aload_n (i := 0) rfl d_X12_free_70 0 rfl ?_
        refine aw_getr (k0 := 77) kc_12 (ws_1 w) (Nat.le_of_ble_eq_true rfl) tw_1819 d_X12_free_71 rfl (wr_1_77 w) ?_
        refine aw_iload_n (i := 2) rfl d_X12_free_74 2 rfl ?_
        obtain ⟨b12, k⟩ := k
        refine aw_iald (ws_260 w) b12 d_X12_free_75 ?_
        refine aw_iconst (v := (-1)) d_X12_free_76 ic_m1 ?_
        refine aw_icmp_ne (tgt := 90) d_X12_free_77 rfl (fun c13 => ?_) (fun c13 => ?_)
        · have k := k.1 c13
          refine aw_iinc (v := (x2 + 1)) [(0, .ref 1), (1, .int x1), (2, .int (x2 + 1))] d_X12_free_90 2 rfl rfl (Nat.le_of_ble_eq_true rfl) rfl rfl ?_
          refine aw_goto (tgt := 42) d_X12_free_93 rfl ?_
          exact k
        · have k := k.2 c13
          refine aw_aload_n (i := 0) rfl d_X12_free_80 0 rfl ?_
          refine aw_getr (k0 := 77) kc_12 (ws_1 w) (Nat.le_of_ble_eq_true rfl) tw_1819 d_X12_free_81 rfl (wr_1_77 w) ?_
          refine aw_iload_n (i := 2) rfl d_X12_free_84 2 rfl ?_
          refine aw_aload_n (i := 0) rfl d_X12_free_85 0 rfl ?_
          refine aw_geti (k0 := 0) kc_12 (ws_1 w) (Nat.le_of_ble_eq_true rfl) tw_1742 d_X12_free_86 rfl ?_
          obtain ⟨b14, k⟩ := k
          refine aw_iast (ws_260 w) b14 d_X12_free_89 ?_
          refine aw_iinc (v := (x2 + 1)) [(0, .ref 1), (1, .int x1), (2, .int (x2 + 1))] d_X12_free_90 2 rfl rfl (Nat.le_of_ble_eq_true rfl) rfl rfl ?_
          refine aw_goto (tgt := 42) d_X12_free_93 rfl ?_
          exact k
theorem t_X12_goHome (d : Nat) (h : Hp_) (w : Wf h) (x1 : Int32) (K : Hp_ → Prop) (k : vp_in x1 12 ∧ (vp_in x1 12 ∧ (vp_in x1 12 ∧ (vp_in x1 12 ∧ (vp_in x1 12 ∧ (Ci (m_X12_walkOf (d + 0) 0 0) [.ref 1, .int (h_i h 209 x1.toNatClampNeg), .int (h_i h 206 x1.toNatClampNeg)] (h_im (h_im (h_im h 208 x1.toNatClampNeg 2) 213 x1.toNatClampNeg (-1)) 211 x1.toNatClampNeg (-1)) (fun r8 h6 => Wf h6 ∧ ((r8 = (-1) → Cv (m_X12_free (d + 0) 0 0) [.ref 1, .int x1] h6 (fun h10 => Wf h10 ∧ (K h10))) ∧ (¬ r8 = (-1) → (¬ r8 = 0 → vp_in x1 12 ∧ (Cv (m_X12_setOut (d + 1) 0 0) [.ref 1, .int x1, .int (h_i h6 206 x1.toNatClampNeg)] h6 (fun h15 => Wf h15 ∧ (K h15)))) ∧ (r8 = 0 → Cv (m_X12_free (d + 0) 0 0) [.ref 1, .int x1] h6 (fun h18 => Wf h18 ∧ (K h18)))))))))))) : Cv (m_X12_goHome (d + 2) 0 0) [.ref 1, .int x1] h K := by
  refine Ct.of (fun _ _ _ => trivial) rfl (Nat.le_of_ble_eq_true rfl) ?_
  show AW (m_X12_goHome (d + 2) 0 0) 0 0 0 [(0, .ref 1), (1, .int x1)] [] h (kV K)
  refine aw_aload_n (i := 0) rfl d_X12_goHome_0 0 rfl ?_
  refine aw_getr (k0 := 12) kc_12 (ws_1 w) (Nat.le_of_ble_eq_true rfl) tw_1754 d_X12_goHome_1 rfl (wr_1_12 w) ?_
  refine aw_iload_n (i := 1) rfl d_X12_goHome_4 1 rfl ?_
  refine aw_iconst (v := 2) d_X12_goHome_5 ic_2 ?_
  obtain ⟨b1, k⟩ := k
  refine aw_iast (ws_208 w) b1 d_X12_goHome_6 ?_
  refine aw_aload_n (i := 0) rfl d_X12_goHome_7 0 rfl ?_
  refine aw_getr (k0 := 17) kc_12 (ws_1 w) (Nat.le_of_ble_eq_true rfl) tw_1759 d_X12_goHome_8 rfl (wr_1_17 w) ?_
  refine aw_iload_n (i := 1) rfl d_X12_goHome_11 1 rfl ?_
  refine aw_iconst (v := (-1)) d_X12_goHome_12 ic_m1 ?_
  obtain ⟨b2, k⟩ := k
  refine aw_iast (ws_213 w) b2 d_X12_goHome_13 ?_
  refine aw_aload_n (i := 0) rfl d_X12_goHome_14 0 rfl ?_
  refine aw_getr (k0 := 15) kc_12 (ws_1 w) (Nat.le_of_ble_eq_true rfl) tw_1757 d_X12_goHome_15 rfl (wr_1_15 w) ?_
  refine aw_iload_n (i := 1) rfl d_X12_goHome_18 1 rfl ?_
  refine aw_iconst (v := (-1)) d_X12_goHome_19 ic_m1 ?_
  obtain ⟨b3, k⟩ := k
  refine aw_iast (ws_211 w) b3 d_X12_goHome_20 ?_
  refine aw_aload_n (i := 0) rfl d_X12_goHome_21 0 rfl ?_
  refine aw_aload_n (i := 0) rfl d_X12_goHome_22 0 rfl ?_
  refine aw_getr (k0 := 13) kc_12 (ws_1 w) (Nat.le_of_ble_eq_true rfl) tw_1755 d_X12_goHome_23 rfl (wr_1_13 w) ?_
  refine aw_iload_n (i := 1) rfl d_X12_goHome_26 1 rfl ?_
  obtain ⟨b4, k⟩ := k
  refine aw_iald (ws_209 w) b4 d_X12_goHome_27 ?_
  refine aw_vi (v2 := (h_i h 209 x1.toNatClampNeg)) (rfl) ?_
  refine aw_aload_n (i := 0) rfl d_X12_goHome_28 0 rfl ?_
  refine aw_getr (k0 := 10) kc_12 (ws_1 w) (Nat.le_of_ble_eq_true rfl) tw_1752 d_X12_goHome_29 rfl (wr_1_10 w) ?_
  refine aw_iload_n (i := 1) rfl d_X12_goHome_32 1 rfl ?_
  obtain ⟨b5, k⟩ := k
  refine aw_iald (ws_206 w) b5 d_X12_goHome_33 ?_
  refine aw_vi (v2 := (h_i h 206 x1.toNatClampNeg)) (rfl) ?_
  refine aw_Vi 1 [.int (h_i h 209 x1.toNatClampNeg), .int (h_i h 206 x1.toNatClampNeg)] [] d_X12_goHome_34 (cV_X12_walkOf (d + 0) 0 0) kc_12 (ws_1 w) tw_2150 rfl (rr0 (Nat.le_of_ble_eq_true rfl) (Nat.le_of_ble_eq_true rfl)) (Nat.le_of_ble_eq_true rfl) xs0 k (fun r8 h6 kk => ?_)
  obtain ⟨w7, k⟩ := kk
  refine aw_istore_n (i := 2) rfl [(0, .ref 1), (1, .int x1), (2, .int r8)] d_X12_goHome_37 (Nat.le_of_ble_eq_true rfl) rfl rfl ?_
  refine aw_iload_n (i := 2) rfl d_X12_goHome_38 2 rfl ?_
  refine aw_iconst (v := (-1)) d_X12_goHome_39 ic_m1 ?_
  refine aw_icmp_eq (tgt := 47) d_X12_goHome_40 rfl (fun c9 => ?_) (fun c9 => ?_)
  · have k := k.1 c9
    refine aw_aload_n (i := 0) rfl d_X12_goHome_47 0 rfl ?_
    refine aw_iload_n (i := 1) rfl d_X12_goHome_48 1 rfl ?_
    refine aw_Vv 1 [.int x1] [] d_X12_goHome_49 (cV_X12_free (d + 0) 0 0) kc_12 (ws_1 w7) tw_2344 rfl (rr0 (Nat.le_of_ble_eq_true rfl) (Nat.le_of_ble_eq_true rfl)) (Nat.le_of_ble_eq_true rfl) xs0 k (fun h10 kk => ?_)
    obtain ⟨w11, k⟩ := kk
    exact aw_vret rfl d_X12_goHome_52 ⟨Nat.le_refl _, Nat.le_refl _⟩ ⟨rfl, k⟩
  · have k := k.2 c9
    refine aw_iload_n (i := 2) rfl d_X12_goHome_43 2 rfl ?_
    refine aw_if_ne (tgt := 53) d_X12_goHome_44 rfl (fun c13 => ?_) (fun c13 => ?_)
    · have k := k.1 c13
      refine aw_aload_n (i := 0) rfl d_X12_goHome_53 0 rfl ?_
      refine aw_iload_n (i := 1) rfl d_X12_goHome_54 1 rfl ?_
      refine aw_aload_n (i := 0) rfl d_X12_goHome_55 0 rfl ?_
      refine aw_getr (k0 := 10) kc_12 (ws_1 w7) (Nat.le_of_ble_eq_true rfl) tw_1752 d_X12_goHome_56 rfl (wr_1_10 w7) ?_
      refine aw_iload_n (i := 1) rfl d_X12_goHome_59 1 rfl ?_
      obtain ⟨b14, k⟩ := k
      refine aw_iald (ws_206 w7) b14 d_X12_goHome_60 ?_
      refine aw_Vv 1 [.int x1, .int (h_i h6 206 x1.toNatClampNeg)] [] d_X12_goHome_61 (cV_X12_setOut (d + 1) 0 0) kc_12 (ws_1 w7) tw_2348 rfl (rr0 (Nat.le_of_ble_eq_true rfl) (Nat.le_of_ble_eq_true rfl)) (Nat.le_of_ble_eq_true rfl) xs0 k (fun h15 kk => ?_)
      obtain ⟨w16, k⟩ := kk
      exact aw_vret rfl d_X12_goHome_64 ⟨Nat.le_refl _, Nat.le_refl _⟩ ⟨rfl, k⟩
    · have k := k.2 c13
      refine aw_aload_n (i := 0) rfl d_X12_goHome_47 0 rfl ?_
      refine aw_iload_n (i := 1) rfl d_X12_goHome_48 1 rfl ?_
      refine aw_Vv 1 [.int x1] [] d_X12_goHome_49 (cV_X12_free (d + 0) 0 0) kc_12 (ws_1 w7) tw_2344 rfl (rr0 (Nat.le_of_ble_eq_true rfl) (Nat.le_of_ble_eq_true rfl)) (Nat.le_of_ble_eq_true rfl) xs0 k (fun h18 kk => ?_)
      obtain ⟨w19, k⟩ := kk
      exact aw_vret rfl d_X12_goHome_52 ⟨Nat.le_refl _, Nat.le_refl _⟩ ⟨rfl, k⟩
theorem t_X12_stay (d : Nat) (h : Hp_) (w : Wf h) (x1 : Int32) (K : Hp_ → Prop) (k : vp_in x1 12 ∧ (((h_i h 1 0) < (h_i h 219 x1.toNatClampNeg) → vp_in x1 12 ∧ (vp_in x1 12 ∧ (K (h_im h 211 x1.toNatClampNeg (h_i h 219 x1.toNatClampNeg))))) ∧ (¬ (h_i h 1 0) < (h_i h 219 x1.toNatClampNeg) → Cv (m_X12_goHome (d + 2) 0 0) [.ref 1, .int x1] h (fun h5 => Wf h5 ∧ (K h5))))) : Cv (m_X12_stay (d + 3) 0 0) [.ref 1, .int x1] h K := by
  refine Ct.of (fun _ _ _ => trivial) rfl (Nat.le_of_ble_eq_true rfl) ?_
  show AW (m_X12_stay (d + 3) 0 0) 0 0 0 [(0, .ref 1), (1, .int x1)] [] h (kV K)
  refine aw_aload_n (i := 0) rfl d_X12_stay_0 0 rfl ?_
  refine aw_getr (k0 := 23) kc_12 (ws_1 w) (Nat.le_of_ble_eq_true rfl) tw_1765 d_X12_stay_1 rfl (wr_1_23 w) ?_
  refine aw_iload_n (i := 1) rfl d_X12_stay_4 1 rfl ?_
  obtain ⟨b1, k⟩ := k
  refine aw_iald (ws_219 w) b1 d_X12_stay_5 ?_
  refine aw_aload_n (i := 0) rfl d_X12_stay_6 0 rfl ?_
  refine aw_geti (k0 := 0) kc_12 (ws_1 w) (Nat.le_of_ble_eq_true rfl) tw_1742 d_X12_stay_7 rfl ?_
  refine aw_icmp_gt (tgt := 21) d_X12_stay_10 rfl (fun c2 => ?_) (fun c2 => ?_)
  · have k := k.1 c2
    refine aw_aload_n (i := 0) rfl d_X12_stay_21 0 rfl ?_
    refine aw_getr (k0 := 15) kc_12 (ws_1 w) (Nat.le_of_ble_eq_true rfl) tw_1757 d_X12_stay_22 rfl (wr_1_15 w) ?_
    refine aw_iload_n (i := 1) rfl d_X12_stay_25 1 rfl ?_
    refine aw_aload_n (i := 0) rfl d_X12_stay_26 0 rfl ?_
    refine aw_getr (k0 := 23) kc_12 (ws_1 w) (Nat.le_of_ble_eq_true rfl) tw_1765 d_X12_stay_27 rfl (wr_1_23 w) ?_
    refine aw_iload_n (i := 1) rfl d_X12_stay_30 1 rfl ?_
    obtain ⟨b3, k⟩ := k
    refine aw_iald (ws_219 w) b3 d_X12_stay_31 ?_
    obtain ⟨b4, k⟩ := k
    refine aw_iast (ws_211 w) b4 d_X12_stay_32 ?_
    exact aw_vret rfl d_X12_stay_33 ⟨Nat.le_refl _, Nat.le_refl _⟩ ⟨rfl, k⟩
  · have k := k.2 c2
    refine aw_aload_n (i := 0) rfl d_X12_stay_13 0 rfl ?_
    refine aw_iload_n (i := 1) rfl d_X12_stay_14 1 rfl ?_
    refine aw_Vv 1 [.int x1] [] d_X12_stay_15 (cV_X12_goHome (d + 2) 0 0) kc_12 (ws_1 w) tw_2340 rfl (rr0 (Nat.le_of_ble_eq_true rfl) (Nat.le_of_ble_eq_true rfl)) (Nat.le_of_ble_eq_true rfl) xs0 k (fun h5 kk => ?_)
    obtain ⟨w6, k⟩ := kk
    refine aw_goto (tgt := 33) d_X12_stay_18 rfl ?_
    exact aw_vret rfl d_X12_stay_33 ⟨Nat.le_refl _, Nat.le_refl _⟩ ⟨rfl, k⟩
theorem t_X12_goDrawn (d : Nat) (h : Hp_) (w : Wf h) (x1 : Int32) (K : Hp_ → Prop) (k : vp_in x1 12 ∧ (vp_in x1 12 ∧ (Cv (m_X12_setOut (d + 1) 0 0) [.ref 1, .int x1, .int (h_i h 218 x1.toNatClampNeg)] (h_im h 211 x1.toNatClampNeg (-1)) (fun h3 => Wf h3 ∧ (vp_in x1 12 ∧ ((¬ (h_i h3 210 x1.toNatClampNeg) = (-1) → K h3) ∧ ((h_i h3 210 x1.toNatClampNeg) = (-1) → Cv (m_X12_stay (d + 3) 0 0) [.ref 1, .int x1] h3 (fun h8 => Wf h8 ∧ (K h8))))))))) : Cv (m_X12_goDrawn (d + 4) 0 0) [.ref 1, .int x1] h K := by
  refine Ct.of (fun _ _ _ => trivial) rfl (Nat.le_of_ble_eq_true rfl) ?_
  show AW (m_X12_goDrawn (d + 4) 0 0) 0 0 0 [(0, .ref 1), (1, .int x1)] [] h (kV K)
  refine aw_aload_n (i := 0) rfl d_X12_goDrawn_0 0 rfl ?_
  refine aw_getr (k0 := 15) kc_12 (ws_1 w) (Nat.le_of_ble_eq_true rfl) tw_1757 d_X12_goDrawn_1 rfl (wr_1_15 w) ?_
  refine aw_iload_n (i := 1) rfl d_X12_goDrawn_4 1 rfl ?_
  refine aw_iconst (v := (-1)) d_X12_goDrawn_5 ic_m1 ?_
  obtain ⟨b1, k⟩ := k
  refine aw_iast (ws_211 w) b1 d_X12_goDrawn_6 ?_
  refine aw_aload_n (i := 0) rfl d_X12_goDrawn_7 0 rfl ?_
  refine aw_iload_n (i := 1) rfl d_X12_goDrawn_8 1 rfl ?_
  refine aw_aload_n (i := 0) rfl d_X12_goDrawn_9 0 rfl ?_
  refine aw_getr (k0 := 22) kc_12 (ws_1 w) (Nat.le_of_ble_eq_true rfl) tw_1764 d_X12_goDrawn_10 rfl (wr_1_22 w) ?_
  refine aw_iload_n (i := 1) rfl d_X12_goDrawn_13 1 rfl ?_
  obtain ⟨b2, k⟩ := k
  refine aw_iald (ws_218 w) b2 d_X12_goDrawn_14 ?_
  refine aw_vi (v2 := (h_i h 218 x1.toNatClampNeg)) (rfl) ?_
  refine aw_Vv 1 [.int x1, .int (h_i h 218 x1.toNatClampNeg)] [] d_X12_goDrawn_15 (cV_X12_setOut (d + 1) 0 0) kc_12 (ws_1 w) tw_2348 rfl (rr0 (Nat.le_of_ble_eq_true rfl) (Nat.le_of_ble_eq_true rfl)) (Nat.le_of_ble_eq_true rfl) xs0 k (fun h3 kk => ?_)
  obtain ⟨w4, k⟩ := kk
  refine aw_aload_n (i := 0) rfl d_X12_goDrawn_18 0 rfl ?_
  refine aw_getr (k0 := 14) kc_12 (ws_1 w4) (Nat.le_of_ble_eq_true rfl) tw_1756 d_X12_goDrawn_19 rfl (wr_1_14 w4) ?_
  refine aw_iload_n (i := 1) rfl d_X12_goDrawn_22 1 rfl ?_
  obtain ⟨b6, k⟩ := k
  refine aw_iald (ws_210 w4) b6 d_X12_goDrawn_23 ?_
  refine aw_iconst (v := (-1)) d_X12_goDrawn_24 ic_m1 ?_
  refine aw_icmp_ne (tgt := 33) d_X12_goDrawn_25 rfl (fun c7 => ?_) (fun c7 => ?_)
  · have k := k.1 c7
    exact aw_vret rfl d_X12_goDrawn_33 ⟨Nat.le_refl _, Nat.le_refl _⟩ ⟨rfl, k⟩
  · have k := k.2 c7
    refine aw_aload_n (i := 0) rfl d_X12_goDrawn_28 0 rfl ?_
    refine aw_iload_n (i := 1) rfl d_X12_goDrawn_29 1 rfl ?_
    refine aw_Vv 1 [.int x1] [] d_X12_goDrawn_30 (cV_X12_stay (d + 3) 0 0) kc_12 (ws_1 w4) tw_2372 rfl (rr0 (Nat.le_of_ble_eq_true rfl) (Nat.le_of_ble_eq_true rfl)) (Nat.le_of_ble_eq_true rfl) xs0 k (fun h8 kk => ?_)
    obtain ⟨w9, k⟩ := kk
    exact aw_vret rfl d_X12_goDrawn_33 ⟨Nat.le_refl _, Nat.le_refl _⟩ ⟨rfl, k⟩
theorem t_X12_miss (d : Nat) (h : Hp_) (w : Wf h) (x1 : Int32) (x2 : Int32) (K : Hp_ → Prop) (k : vp_in x1 400 ∧ (vp_in x1 400 ∧ (K (h_im (h_im h 242 x1.toNatClampNeg (h_i h 1 0)) 243 x1.toNatClampNeg x2)))) : Cv (m_X12_miss (d + 0) 0 0) [.ref 1, .int x1, .int x2] h K := by
  refine Ct.of (fun _ _ _ => trivial) rfl (Nat.le_of_ble_eq_true rfl) ?_
  show AW (m_X12_miss (d + 0) 0 0) 0 0 0 [(0, .ref 1), (1, .int x1), (2, .int x2)] [] h (kV K)
  refine aw_aload_n (i := 0) rfl d_X12_miss_0 0 rfl ?_
  refine aw_getr (k0 := 57) kc_12 (ws_1 w) (Nat.le_of_ble_eq_true rfl) tw_1799 d_X12_miss_1 rfl (wr_1_57 w) ?_
  refine aw_iload_n (i := 1) rfl d_X12_miss_4 1 rfl ?_
  refine aw_aload_n (i := 0) rfl d_X12_miss_5 0 rfl ?_
  refine aw_geti (k0 := 0) kc_12 (ws_1 w) (Nat.le_of_ble_eq_true rfl) tw_1742 d_X12_miss_6 rfl ?_
  obtain ⟨b1, k⟩ := k
  refine aw_iast (ws_242 w) b1 d_X12_miss_9 ?_
  refine aw_aload_n (i := 0) rfl d_X12_miss_10 0 rfl ?_
  refine aw_getr (k0 := 58) kc_12 (ws_1 w) (Nat.le_of_ble_eq_true rfl) tw_1800 d_X12_miss_11 rfl (wr_1_58 w) ?_
  refine aw_iload_n (i := 1) rfl d_X12_miss_14 1 rfl ?_
  refine aw_iload_n (i := 2) rfl d_X12_miss_15 2 rfl ?_
  obtain ⟨b2, k⟩ := k
  refine aw_iast (ws_243 w) b2 d_X12_miss_16 ?_
  exact aw_vret rfl d_X12_miss_17 ⟨Nat.le_refl _, Nat.le_refl _⟩ ⟨rfl, k⟩
theorem t_X12_comes (d : Nat) (h : Hp_) (w : Wf h) (x1 : Int32) (x2 : Int32) (K : Int32 → Hp_ → Prop) (k : vp_in x1 12 ∧ (vp_in x1 12 ∧ (vp_in x1 12 ∧ (vp_in x1 12 ∧ (((h_i h 1 0) ≤ ((h_i h 214 x1.toNatClampNeg) + x2) → vp_in (h_i h 216 x1.toNatClampNeg) 400 ∧ ((((h_i h 214 x1.toNatClampNeg) + x2) ≤ (h_i h 1 0) → K 0 (h_im (h_im h 216 x1.toNatClampNeg ((h_i h 216 x1.toNatClampNeg) + 1)) 241 ((h_i h 216 x1.toNatClampNeg) : Int32).toNatClampNeg (h_i h 1 0))) ∧ (¬ ((h_i h 214 x1.toNatClampNeg) + x2) ≤ (h_i h 1 0) → vp_in x1 12 ∧ (K 1 (h_im (h_im (h_im h 216 x1.toNatClampNeg ((h_i h 216 x1.toNatClampNeg) + 1)) 241 ((h_i h 216 x1.toNatClampNeg) : Int32).toNatClampNeg (h_i h 1 0)) 211 x1.toNatClampNeg ((h_i h 214 x1.toNatClampNeg) + x2)))))) ∧ (¬ (h_i h 1 0) ≤ ((h_i h 214 x1.toNatClampNeg) + x2) → Cv (m_X12_miss (d + 0) 0 0) [.ref 1, .int (h_i h 216 x1.toNatClampNeg), .int 1] (h_im h 216 x1.toNatClampNeg ((h_i h 216 x1.toNatClampNeg) + 1)) (fun h9 => Wf h9 ∧ (K 0 h9)))))))) : Ci (m_X12_comes (d + 1) 0 0) [.ref 1, .int x1, .int x2] h K := by
  refine Ct.of (fun _ _ _ => trivial) rfl (Nat.le_of_ble_eq_true rfl) ?_
  show AW (m_X12_comes (d + 1) 0 0) 0 0 0 [(0, .ref 1), (1, .int x1), (2, .int x2)] [] h (kI K)
  refine aw_aload_n (i := 0) rfl d_X12_comes_0 0 rfl ?_
  refine aw_getr (k0 := 18) kc_12 (ws_1 w) (Nat.le_of_ble_eq_true rfl) tw_1760 d_X12_comes_1 rfl (wr_1_18 w) ?_
  refine aw_iload_n (i := 1) rfl d_X12_comes_4 1 rfl ?_
  obtain ⟨b1, k⟩ := k
  refine aw_iald (ws_214 w) b1 d_X12_comes_5 ?_
  refine aw_iload_n (i := 2) rfl d_X12_comes_6 2 rfl ?_
  refine aw_iadd d_X12_comes_7 ?_
  refine aw_istore_n (i := 3) rfl [(0, .ref 1), (1, .int x1), (2, .int x2), (3, .int ((h_i h 214 x1.toNatClampNeg) + x2))] d_X12_comes_8 (Nat.le_of_ble_eq_true rfl) rfl rfl ?_
  refine aw_aload_n (i := 0) rfl d_X12_comes_9 0 rfl ?_
  refine aw_getr (k0 := 20) kc_12 (ws_1 w) (Nat.le_of_ble_eq_true rfl) tw_1762 d_X12_comes_10 rfl (wr_1_20 w) ?_
  refine aw_iload_n (i := 1) rfl d_X12_comes_13 1 rfl ?_
  obtain ⟨b2, k⟩ := k
  refine aw_iald (ws_216 w) b2 d_X12_comes_14 ?_
  refine aw_istore [(0, .ref 1), (1, .int x1), (2, .int x2), (3, .int ((h_i h 214 x1.toNatClampNeg) + x2)), (4, .int (h_i h 216 x1.toNatClampNeg))] d_X12_comes_15 (Nat.le_of_ble_eq_true rfl) rfl rfl ?_
  refine aw_aload_n (i := 0) rfl d_X12_comes_17 0 rfl ?_
  refine aw_getr (k0 := 20) kc_12 (ws_1 w) (Nat.le_of_ble_eq_true rfl) tw_1762 d_X12_comes_18 rfl (wr_1_20 w) ?_
  refine aw_iload_n (i := 1) rfl d_X12_comes_21 1 rfl ?_
  refine aw_dup2 d_X12_comes_22 ⟨rfl, rfl⟩ ?_
  obtain ⟨b3, k⟩ := k
  refine aw_iald (ws_216 w) b3 d_X12_comes_23 ?_
  refine aw_iconst (v := 1) d_X12_comes_24 ic_1 ?_
  refine aw_iadd d_X12_comes_25 ?_
  obtain ⟨b4, k⟩ := k
  refine aw_iast (ws_216 w) b4 d_X12_comes_26 ?_
  refine aw_aload_n (i := 0) rfl d_X12_comes_27 0 rfl ?_
  refine aw_geti (k0 := 0) kc_12 (ws_1 w) (Nat.le_of_ble_eq_true rfl) tw_1742 d_X12_comes_28 rfl ?_
  refine aw_vi (v2 := (h_i h 1 0)) (rfl) ?_
  refine aw_iload_n (i := 3) rfl d_X12_comes_31 3 rfl ?_
  refine aw_icmp_le (tgt := 44) d_X12_comes_32 rfl (fun c5 => ?_) (fun c5 => ?_)
  · have k := k.1 c5
    refine aw_aload_n (i := 0) rfl d_X12_comes_44 0 rfl ?_
    refine aw_getr (k0 := 56) kc_12 (ws_1 w) (Nat.le_of_ble_eq_true rfl) tw_1798 d_X12_comes_45 rfl (wr_1_56 w) ?_
    refine aw_iload d_X12_comes_48 4 rfl ?_
    refine aw_aload_n (i := 0) rfl d_X12_comes_50 0 rfl ?_
    refine aw_geti (k0 := 0) kc_12 (ws_1 w) (Nat.le_of_ble_eq_true rfl) tw_1742 d_X12_comes_51 rfl ?_
    refine aw_vi (v2 := (h_i h 1 0)) (rfl) ?_
    obtain ⟨b6, k⟩ := k
    refine aw_iast (ws_241 w) b6 d_X12_comes_54 ?_
    refine aw_aload_n (i := 0) rfl d_X12_comes_55 0 rfl ?_
    refine aw_geti (k0 := 0) kc_12 (ws_1 w) (Nat.le_of_ble_eq_true rfl) tw_1742 d_X12_comes_56 rfl ?_
    refine aw_vi (v2 := (h_i h 1 0)) (rfl) ?_
    refine aw_iload_n (i := 3) rfl d_X12_comes_59 3 rfl ?_
    refine aw_icmp_ge (tgt := 72) d_X12_comes_60 rfl (fun c7 => ?_) (fun c7 => ?_)
    · have k := k.1 c7
      refine aw_iconst (v := 0) d_X12_comes_72 ic_0 ?_
      exact aw_zret rfl rfl d_X12_comes_73 ⟨Nat.le_refl _, Nat.le_refl _⟩ ⟨_, rfl, k⟩
    · have k := k.2 c7
      refine aw_aload_n (i := 0) rfl d_X12_comes_63 0 rfl ?_
      refine aw_getr (k0 := 15) kc_12 (ws_1 w) (Nat.le_of_ble_eq_true rfl) tw_1757 d_X12_comes_64 rfl (wr_1_15 w) ?_
      refine aw_iload_n (i := 1) rfl d_X12_comes_67 1 rfl ?_
      refine aw_iload_n (i := 3) rfl d_X12_comes_68 3 rfl ?_
      obtain ⟨b8, k⟩ := k
      refine aw_iast (ws_211 w) b8 d_X12_comes_69 ?_
      refine aw_iconst (v := 1) d_X12_comes_70 ic_1 ?_
      exact aw_zret rfl rfl d_X12_comes_71 ⟨Nat.le_refl _, Nat.le_refl _⟩ ⟨_, rfl, k⟩
  · have k := k.2 c5
    refine aw_aload_n (i := 0) rfl d_X12_comes_35 0 rfl ?_
    refine aw_iload d_X12_comes_36 4 rfl ?_
    refine aw_iconst (v := 1) d_X12_comes_38 ic_1 ?_
    refine aw_Vv 1 [.int (h_i h 216 x1.toNatClampNeg), .int 1] [] d_X12_comes_39 (cV_X12_miss (d + 0) 0 0) kc_12 (ws_1 w) tw_2352 rfl (rr0 (Nat.le_of_ble_eq_true rfl) (Nat.le_of_ble_eq_true rfl)) (Nat.le_of_ble_eq_true rfl) xs0 k (fun h9 kk => ?_)
    obtain ⟨w10, k⟩ := kk
    refine aw_iconst (v := 0) d_X12_comes_42 ic_0 ?_
    exact aw_zret rfl rfl d_X12_comes_43 ⟨Nat.le_refl _, Nat.le_refl _⟩ ⟨_, rfl, k⟩
theorem t_X12_goOn (d : Nat) (h : Hp_) (w : Wf h) (x1 : Int32) (K : Hp_ → Prop) (k : vp_in x1 12 ∧ ((¬ (h_i h 208 x1.toNatClampNeg) = 1 → K h) ∧ ((h_i h 208 x1.toNatClampNeg) = 1 → vp_in x1 12 ∧ (vp_in x1 12 ∧ (vp_in (h_i h 212 x1.toNatClampNeg) 12 ∧ ((¬ (h_i h 213 x1.toNatClampNeg) = (h_i h 227 ((h_i h 212 x1.toNatClampNeg) : Int32).toNatClampNeg) → vp_in x1 12 ∧ (vp_in x1 12 ∧ (vp_in ((150 * (h_i h 212 x1.toNatClampNeg)) + (h_i h 213 x1.toNatClampNeg)) 1800 ∧ (vp_in x1 12 ∧ (((h_i h 228 (((150 * (h_i h 212 x1.toNatClampNeg)) + (h_i h 213 x1.toNatClampNeg)) : Int32).toNatClampNeg) = 0 → vp_in x1 12 ∧ (vp_in ((150 * (h_i h 212 x1.toNatClampNeg)) + (h_i h 213 x1.toNatClampNeg)) 1800 ∧ (Ci (m_X12_walkOf (d + 0) 0 0) [.ref 1, .int (h_i h 209 x1.toNatClampNeg), .int (h_i h 229 (((150 * (h_i h 212 x1.toNatClampNeg)) + (h_i h 213 x1.toNatClampNeg)) : Int32).toNatClampNeg)] (h_im h 211 x1.toNatClampNeg (-1)) (fun r16 h14 => Wf h14 ∧ ((r16 ≤ 0 → (¬ (h_i h 228 (((150 * (h_i h 212 x1.toNatClampNeg)) + (h_i h 213 x1.toNatClampNeg)) : Int32).toNatClampNeg) = 2 → (¬ (h_i h 228 (((150 * (h_i h 212 x1.toNatClampNeg)) + (h_i h 213 x1.toNatClampNeg)) : Int32).toNatClampNeg) = 2 → vp_in x1 12 ∧ (vp_in x1 12 ∧ (AW (m_X12_goOn (d + 3) 0 0) 0 0 0 [(0, .ref 1), (1, .int x1)] [] (h_im h14 213 x1.toNatClampNeg ((h_i h14 213 x1.toNatClampNeg) + 1)) (kV K)))) ∧ ((h_i h 228 (((150 * (h_i h 212 x1.toNatClampNeg)) + (h_i h 213 x1.toNatClampNeg)) : Int32).toNatClampNeg) = 2 → vp_in ((150 * (h_i h 212 x1.toNatClampNeg)) + (h_i h 213 x1.toNatClampNeg)) 1800 ∧ (Ci (m_X12_comes (d + 1) 0 0) [.ref 1, .int x1, .int (h_i h14 230 (((150 * (h_i h 212 x1.toNatClampNeg)) + (h_i h 213 x1.toNatClampNeg)) : Int32).toNatClampNeg)] h14 (fun r25 h23 => Wf h23 ∧ ((r25 = 0 → vp_in x1 12 ∧ (vp_in x1 12 ∧ (AW (m_X12_goOn (d + 3) 0 0) 0 0 0 [(0, .ref 1), (1, .int x1)] [] (h_im h23 213 x1.toNatClampNeg ((h_i h23 213 x1.toNatClampNeg) + 1)) (kV K)))) ∧ (¬ r25 = 0 → K h23)))))) ∧ ((h_i h 228 (((150 * (h_i h 212 x1.toNatClampNeg)) + (h_i h 213 x1.toNatClampNeg)) : Int32).toNatClampNeg) = 2 → (¬ r16 = (-1) → (¬ (h_i h 228 (((150 * (h_i h 212 x1.toNatClampNeg)) + (h_i h 213 x1.toNatClampNeg)) : Int32).toNatClampNeg) = 2 → vp_in x1 12 ∧ (vp_in x1 12 ∧ (AW (m_X12_goOn (d + 3) 0 0) 0 0 0 [(0, .ref 1), (1, .int x1)] [] (h_im h14 213 x1.toNatClampNeg ((h_i h14 213 x1.toNatClampNeg) + 1)) (kV K)))) ∧ ((h_i h 228 (((150 * (h_i h 212 x1.toNatClampNeg)) + (h_i h 213 x1.toNatClampNeg)) : Int32).toNatClampNeg) = 2 → vp_in ((150 * (h_i h 212 x1.toNatClampNeg)) + (h_i h 213 x1.toNatClampNeg)) 1800 ∧ (Ci (m_X12_comes (d + 1) 0 0) [.ref 1, .int x1, .int (h_i h14 230 (((150 * (h_i h 212 x1.toNatClampNeg)) + (h_i h 213 x1.toNatClampNeg)) : Int32).toNatClampNeg)] h14 (fun r36 h34 => Wf h34 ∧ ((r36 = 0 → vp_in x1 12 ∧ (vp_in x1 12 ∧ (AW (m_X12_goOn (d + 3) 0 0) 0 0 0 [(0, .ref 1), (1, .int x1)] [] (h_im h34 213 x1.toNatClampNeg ((h_i h34 213 x1.toNatClampNeg) + 1)) (kV K)))) ∧ (¬ r36 = 0 → K h34)))))) ∧ (r16 = (-1) → vp_in x1 12 ∧ (Cv (m_X12_miss (d + 0) 0 0) [.ref 1, .int (h_i h14 216 x1.toNatClampNeg), .int 2] h14 (fun h41 => Wf h41 ∧ (vp_in x1 12 ∧ (vp_in x1 12 ∧ (vp_in x1 12 ∧ (vp_in x1 12 ∧ (AW (m_X12_goOn (d + 3) 0 0) 0 0 0 [(0, .ref 1), (1, .int x1)] [] (h_im (h_im h41 216 x1.toNatClampNeg ((h_i h41 216 x1.toNatClampNeg) + 1)) 213 x1.toNatClampNeg ((h_i h41 213 x1.toNatClampNeg) + 1)) (kV K))))))))))) ∧ (¬ r16 ≤ 0 → vp_in ((150 * (h_i h 212 x1.toNatClampNeg)) + (h_i h 213 x1.toNatClampNeg)) 1800 ∧ (Cv (m_X12_setOut (d + 1) 0 0) [.ref 1, .int x1, .int (h_i h14 229 (((150 * (h_i h 212 x1.toNatClampNeg)) + (h_i h 213 x1.toNatClampNeg)) : Int32).toNatClampNeg)] h14 (fun h49 => Wf h49 ∧ (K h49))))))))) ∧ (¬ (h_i h 228 (((150 * (h_i h 212 x1.toNatClampNeg)) + (h_i h 213 x1.toNatClampNeg)) : Int32).toNatClampNeg) = 0 → (¬ (h_i h 228 (((150 * (h_i h 212 x1.toNatClampNeg)) + (h_i h 213 x1.toNatClampNeg)) : Int32).toNatClampNeg) = 2 → (¬ (h_i h 228 (((150 * (h_i h 212 x1.toNatClampNeg)) + (h_i h 213 x1.toNatClampNeg)) : Int32).toNatClampNeg) = 1 → vp_in x1 12 ∧ (K (h_im (h_im h 211 x1.toNatClampNeg (-1)) 211 x1.toNatClampNeg ((h_i h 1 0) + 1)))) ∧ ((h_i h 228 (((150 * (h_i h 212 x1.toNatClampNeg)) + (h_i h 213 x1.toNatClampNeg)) : Int32).toNatClampNeg) = 1 → vp_in ((150 * (h_i h 212 x1.toNatClampNeg)) + (h_i h 213 x1.toNatClampNeg)) 1800 ∧ (vp_in x1 12 ∧ (K (h_im (h_im h 211 x1.toNatClampNeg (-1)) 211 x1.toNatClampNeg ((h_i h 1 0) + (h_i h 229 (((150 * (h_i h 212 x1.toNatClampNeg)) + (h_i h 213 x1.toNatClampNeg)) : Int32).toNatClampNeg))))))) ∧ ((h_i h 228 (((150 * (h_i h 212 x1.toNatClampNeg)) + (h_i h 213 x1.toNatClampNeg)) : Int32).toNatClampNeg) = 2 → vp_in x1 12 ∧ (vp_in ((150 * (h_i h 212 x1.toNatClampNeg)) + (h_i h 213 x1.toNatClampNeg)) 1800 ∧ (Ci (m_X12_walkOf (d + 0) 0 0) [.ref 1, .int (h_i h 209 x1.toNatClampNeg), .int (h_i h 229 (((150 * (h_i h 212 x1.toNatClampNeg)) + (h_i h 213 x1.toNatClampNeg)) : Int32).toNatClampNeg)] (h_im h 211 x1.toNatClampNeg (-1)) (fun r61 h59 => Wf h59 ∧ ((r61 ≤ 0 → (¬ (h_i h 228 (((150 * (h_i h 212 x1.toNatClampNeg)) + (h_i h 213 x1.toNatClampNeg)) : Int32).toNatClampNeg) = 2 → (¬ (h_i h 228 (((150 * (h_i h 212 x1.toNatClampNeg)) + (h_i h 213 x1.toNatClampNeg)) : Int32).toNatClampNeg) = 2 → vp_in x1 12 ∧ (vp_in x1 12 ∧ (AW (m_X12_goOn (d + 3) 0 0) 0 0 0 [(0, .ref 1), (1, .int x1)] [] (h_im h59 213 x1.toNatClampNeg ((h_i h59 213 x1.toNatClampNeg) + 1)) (kV K)))) ∧ ((h_i h 228 (((150 * (h_i h 212 x1.toNatClampNeg)) + (h_i h 213 x1.toNatClampNeg)) : Int32).toNatClampNeg) = 2 → vp_in ((150 * (h_i h 212 x1.toNatClampNeg)) + (h_i h 213 x1.toNatClampNeg)) 1800 ∧ (Ci (m_X12_comes (d + 1) 0 0) [.ref 1, .int x1, .int (h_i h59 230 (((150 * (h_i h 212 x1.toNatClampNeg)) + (h_i h 213 x1.toNatClampNeg)) : Int32).toNatClampNeg)] h59 (fun r70 h68 => Wf h68 ∧ ((r70 = 0 → vp_in x1 12 ∧ (vp_in x1 12 ∧ (AW (m_X12_goOn (d + 3) 0 0) 0 0 0 [(0, .ref 1), (1, .int x1)] [] (h_im h68 213 x1.toNatClampNeg ((h_i h68 213 x1.toNatClampNeg) + 1)) (kV K)))) ∧ (¬ r70 = 0 → K h68)))))) ∧ ((h_i h 228 (((150 * (h_i h 212 x1.toNatClampNeg)) + (h_i h 213 x1.toNatClampNeg)) : Int32).toNatClampNeg) = 2 → (¬ r61 = (-1) → (¬ (h_i h 228 (((150 * (h_i h 212 x1.toNatClampNeg)) + (h_i h 213 x1.toNatClampNeg)) : Int32).toNatClampNeg) = 2 → vp_in x1 12 ∧ (vp_in x1 12 ∧ (AW (m_X12_goOn (d + 3) 0 0) 0 0 0 [(0, .ref 1), (1, .int x1)] [] (h_im h59 213 x1.toNatClampNeg ((h_i h59 213 x1.toNatClampNeg) + 1)) (kV K)))) ∧ ((h_i h 228 (((150 * (h_i h 212 x1.toNatClampNeg)) + (h_i h 213 x1.toNatClampNeg)) : Int32).toNatClampNeg) = 2 → vp_in ((150 * (h_i h 212 x1.toNatClampNeg)) + (h_i h 213 x1.toNatClampNeg)) 1800 ∧ (Ci (m_X12_comes (d + 1) 0 0) [.ref 1, .int x1, .int (h_i h59 230 (((150 * (h_i h 212 x1.toNatClampNeg)) + (h_i h 213 x1.toNatClampNeg)) : Int32).toNatClampNeg)] h59 (fun r81 h79 => Wf h79 ∧ ((r81 = 0 → vp_in x1 12 ∧ (vp_in x1 12 ∧ (AW (m_X12_goOn (d + 3) 0 0) 0 0 0 [(0, .ref 1), (1, .int x1)] [] (h_im h79 213 x1.toNatClampNeg ((h_i h79 213 x1.toNatClampNeg) + 1)) (kV K)))) ∧ (¬ r81 = 0 → K h79)))))) ∧ (r61 = (-1) → vp_in x1 12 ∧ (Cv (m_X12_miss (d + 0) 0 0) [.ref 1, .int (h_i h59 216 x1.toNatClampNeg), .int 2] h59 (fun h86 => Wf h86 ∧ (vp_in x1 12 ∧ (vp_in x1 12 ∧ (vp_in x1 12 ∧ (vp_in x1 12 ∧ (AW (m_X12_goOn (d + 3) 0 0) 0 0 0 [(0, .ref 1), (1, .int x1)] [] (h_im (h_im h86 216 x1.toNatClampNeg ((h_i h86 216 x1.toNatClampNeg) + 1)) 213 x1.toNatClampNeg ((h_i h86 213 x1.toNatClampNeg) + 1)) (kV K))))))))))) ∧ (¬ r61 ≤ 0 → vp_in ((150 * (h_i h 212 x1.toNatClampNeg)) + (h_i h 213 x1.toNatClampNeg)) 1800 ∧ (Cv (m_X12_setOut (d + 1) 0 0) [.ref 1, .int x1, .int (h_i h59 229 (((150 * (h_i h 212 x1.toNatClampNeg)) + (h_i h 213 x1.toNatClampNeg)) : Int32).toNatClampNeg)] h59 (fun h94 => Wf h94 ∧ (K h94))))))))))))))) ∧ ((h_i h 213 x1.toNatClampNeg) = (h_i h 227 ((h_i h 212 x1.toNatClampNeg) : Int32).toNatClampNeg) → Cv (m_X12_goHome (d + 2) 0 0) [.ref 1, .int x1] h (fun h97 => Wf h97 ∧ (K h97))))))))) : Cv (m_X12_goOn (d + 3) 0 0) [.ref 1, .int x1] h K := by
  refine Ct.of (fun _ _ _ => trivial) rfl (Nat.le_of_ble_eq_true rfl) ?_
  show AW (m_X12_goOn (d + 3) 0 0) 0 0 0 [(0, .ref 1), (1, .int x1)] [] h (kV K)
  refine aw_aload_n (i := 0) rfl d_X12_goOn_0 0 rfl ?_
  refine aw_getr (k0 := 12) kc_12 (ws_1 w) (Nat.le_of_ble_eq_true rfl) tw_1754 d_X12_goOn_1 rfl (wr_1_12 w) ?_
  refine aw_iload_n (i := 1) rfl d_X12_goOn_4 1 rfl ?_
  obtain ⟨b1, k⟩ := k
  refine aw_iald (ws_208 w) b1 d_X12_goOn_5 ?_
  refine aw_iconst (v := 1) d_X12_goOn_6 ic_1 ?_
  refine aw_icmp_ne (tgt := 210) d_X12_goOn_7 rfl (fun c2 => ?_) (fun c2 => ?_)
  · have k := k.1 c2
    exact aw_vret rfl d_X12_goOn_210 ⟨Nat.le_refl _, Nat.le_refl _⟩ ⟨rfl, k⟩
  · have k := k.2 c2
    refine aw_aload_n (i := 0) rfl d_X12_goOn_10 0 rfl ?_
    refine aw_getr (k0 := 17) kc_12 (ws_1 w) (Nat.le_of_ble_eq_true rfl) tw_1759 d_X12_goOn_11 rfl (wr_1_17 w) ?_
    refine aw_iload_n (i := 1) rfl d_X12_goOn_14 1 rfl ?_
    obtain ⟨b3, k⟩ := k
    refine aw_iald (ws_213 w) b3 d_X12_goOn_15 ?_
    refine aw_aload_n (i := 0) rfl d_X12_goOn_16 0 rfl ?_
    refine aw_getr (k0 := 38) kc_12 (ws_1 w) (Nat.le_of_ble_eq_true rfl) tw_1780 d_X12_goOn_17 rfl (wr_1_38 w) ?_
    refine aw_aload_n (i := 0) rfl d_X12_goOn_20 0 rfl ?_
    refine aw_getr (k0 := 16) kc_12 (ws_1 w) (Nat.le_of_ble_eq_true rfl) tw_1758 d_X12_goOn_21 rfl (wr_1_16 w) ?_
    refine aw_iload_n (i := 1) rfl d_X12_goOn_24 1 rfl ?_
    obtain ⟨b4, k⟩ := k
    refine aw_iald (ws_212 w) b4 d_X12_goOn_25 ?_
    obtain ⟨b5, k⟩ := k
    refine aw_iald (ws_227 w) b5 d_X12_goOn_26 ?_
    refine aw_icmp_ne (tgt := 36) d_X12_goOn_27 rfl (fun c6 => ?_) (fun c6 => ?_)
    · have k := k.1 c6
      refine aw_sipush (v := 150) d_X12_goOn_36 is_150 ?_
      refine aw_aload_n (i := 0) rfl d_X12_goOn_39 0 rfl ?_
      refine aw_getr (k0 := 16) kc_12 (ws_1 w) (Nat.le_of_ble_eq_true rfl) tw_1758 d_X12_goOn_40 rfl (wr_1_16 w) ?_
      refine aw_iload_n (i := 1) rfl d_X12_goOn_43 1 rfl ?_
      obtain ⟨b7, k⟩ := k
      refine aw_iald (ws_212 w) b7 d_X12_goOn_44 ?_
      refine aw_imul d_X12_goOn_45 ?_
      refine aw_aload_n (i := 0) rfl d_X12_goOn_46 0 rfl ?_
      refine aw_getr (k0 := 17) kc_12 (ws_1 w) (Nat.le_of_ble_eq_true rfl) tw_1759 d_X12_goOn_47 rfl (wr_1_17 w) ?_
      refine aw_iload_n (i := 1) rfl d_X12_goOn_50 1 rfl ?_
      obtain ⟨b8, k⟩ := k
      refine aw_iald (ws_213 w) b8 d_X12_goOn_51 ?_
      refine aw_iadd d_X12_goOn_52 ?_
      refine aw_istore_n (i := 2) rfl [(0, .ref 1), (1, .int x1), (2, .int ((150 * (h_i h 212 x1.toNatClampNeg)) + (h_i h 213 x1.toNatClampNeg)))] d_X12_goOn_53 (Nat.le_of_ble_eq_true rfl) rfl rfl ?_
      refine aw_aload_n (i := 0) rfl d_X12_goOn_54 0 rfl ?_
      refine aw_getr (k0 := 39) kc_12 (ws_1 w) (Nat.le_of_ble_eq_true rfl) tw_1781 d_X12_goOn_55 rfl (wr_1_39 w) ?_
      refine aw_iload_n (i := 2) rfl d_X12_goOn_58 2 rfl ?_
      obtain ⟨b9, k⟩ := k
      refine aw_iald (ws_228 w) b9 d_X12_goOn_59 ?_
      refine aw_istore_n (i := 3) rfl [(0, .ref 1), (1, .int x1), (2, .int ((150 * (h_i h 212 x1.toNatClampNeg)) + (h_i h 213 x1.toNatClampNeg))), (3, .int (h_i h 228 (((150 * (h_i h 212 x1.toNatClampNeg)) + (h_i h 213 x1.toNatClampNeg)) : Int32).toNatClampNeg))] d_X12_goOn_60 (Nat.le_of_ble_eq_true rfl) rfl rfl ?_
      refine aw_aload_n (i := 0) rfl d_X12_goOn_61 0 rfl ?_
      refine aw_getr (k0 := 15) kc_12 (ws_1 w) (Nat.le_of_ble_eq_true rfl) tw_1757 d_X12_goOn_62 rfl (wr_1_15 w) ?_
      refine aw_iload_n (i := 1) rfl d_X12_goOn_65 1 rfl ?_
      refine aw_iconst (v := (-1)) d_X12_goOn_66 ic_m1 ?_
      obtain ⟨b10, k⟩ := k
      refine aw_iast (ws_211 w) b10 d_X12_goOn_67 ?_
      refine aw_iload_n (i := 3) rfl d_X12_goOn_68 3 rfl ?_
      refine aw_if_eq (tgt := 77) d_X12_goOn_69 rfl (fun c11 => ?_) (fun c11 => ?_)
      · have k := k.1 c11
        refine aw_aload_n (i := 0) rfl d_X12_goOn_77 0 rfl ?_
        refine aw_aload_n (i := 0) rfl d_X12_goOn_78 0 rfl ?_
        refine aw_getr (k0 := 13) kc_12 (ws_1 w) (Nat.le_of_ble_eq_true rfl) tw_1755 d_X12_goOn_79 rfl (wr_1_13 w) ?_
        refine aw_iload_n (i := 1) rfl d_X12_goOn_82 1 rfl ?_
        obtain ⟨b12, k⟩ := k
        refine aw_iald (ws_209 w) b12 d_X12_goOn_83 ?_
        refine aw_vi (v2 := (h_i h 209 x1.toNatClampNeg)) (rfl) ?_
        refine aw_aload_n (i := 0) rfl d_X12_goOn_84 0 rfl ?_
        refine aw_getr (k0 := 40) kc_12 (ws_1 w) (Nat.le_of_ble_eq_true rfl) tw_1782 d_X12_goOn_85 rfl (wr_1_40 w) ?_
        refine aw_iload_n (i := 2) rfl d_X12_goOn_88 2 rfl ?_
        obtain ⟨b13, k⟩ := k
        refine aw_iald (ws_229 w) b13 d_X12_goOn_89 ?_
        refine aw_vi (v2 := (h_i h 229 (((150 * (h_i h 212 x1.toNatClampNeg)) + (h_i h 213 x1.toNatClampNeg)) : Int32).toNatClampNeg)) (rfl) ?_
        refine aw_Vi 1 [.int (h_i h 209 x1.toNatClampNeg), .int (h_i h 229 (((150 * (h_i h 212 x1.toNatClampNeg)) + (h_i h 213 x1.toNatClampNeg)) : Int32).toNatClampNeg)] [] d_X12_goOn_90 (cV_X12_walkOf (d + 0) 0 0) kc_12 (ws_1 w) tw_2150 rfl (rr0 (Nat.le_of_ble_eq_true rfl) (Nat.le_of_ble_eq_true rfl)) (Nat.le_of_ble_eq_true rfl) xs0 k (fun r16 h14 kk => ?_)
        obtain ⟨w15, k⟩ := kk
        refine aw_istore [(0, .ref 1), (1, .int x1), (2, .int ((150 * (h_i h 212 x1.toNatClampNeg)) + (h_i h 213 x1.toNatClampNeg))), (3, .int (h_i h 228 (((150 * (h_i h 212 x1.toNatClampNeg)) + (h_i h 213 x1.toNatClampNeg)) : Int32).toNatClampNeg)), (4, .int r16)] d_X12_goOn_93 (Nat.le_of_ble_eq_true rfl) rfl rfl ?_
        refine aw_iload d_X12_goOn_95 4 rfl ?_
        refine aw_if_le (tgt := 112) d_X12_goOn_97 rfl (fun c17 => ?_) (fun c17 => ?_)
        · have k := k.1 c17
          refine aw_iload_n (i := 3) rfl d_X12_goOn_112 3 rfl ?_
          refine aw_iconst (v := 2) d_X12_goOn_113 ic_2 ?_
          refine aw_icmp_ne (tgt := 147) d_X12_goOn_114 rfl (fun c18 => ?_) (fun c18 => ?_)
          · have k := k.1 c18
            refine aw_iload_n (i := 3) rfl d_X12_goOn_147 3 rfl ?_
            refine aw_iconst (v := 2) d_X12_goOn_148 ic_2 ?_
            refine aw_icmp_ne (tgt := 167) d_X12_goOn_149 rfl (fun c19 => ?_) (fun c19 => ?_)
            · have k := k.1 c19
              refine aw_goto (tgt := 197) d_X12_goOn_167 rfl ?_
              refine aw_aload_n (i := 0) rfl d_X12_goOn_197 0 rfl ?_
              refine aw_getr (k0 := 17) kc_12 (ws_1 w15) (Nat.le_of_ble_eq_true rfl) tw_1759 d_X12_goOn_198 rfl (wr_1_17 w15) ?_
              refine aw_iload_n (i := 1) rfl d_X12_goOn_201 1 rfl ?_
              refine aw_dup2 d_X12_goOn_202 ⟨rfl, rfl⟩ ?_
              obtain ⟨b20, k⟩ := k
              refine aw_iald (ws_213 w15) b20 d_X12_goOn_203 ?_
              refine aw_iconst (v := 1) d_X12_goOn_204 ic_1 ?_
              refine aw_iadd d_X12_goOn_205 ?_
              obtain ⟨b21, k⟩ := k
              refine aw_iast (ws_213 w15) b21 d_X12_goOn_206 ?_
              refine aw_goto (tgt := 0) d_X12_goOn_207 rfl ?_
              exact aw_lvp [0, 1] [(0, .ref 1), (1, .int x1)] rfl k
            · have k := k.2 c19
              refine aw_aload_n (i := 0) rfl d_X12_goOn_152 0 rfl ?_
              refine aw_iload_n (i := 1) rfl d_X12_goOn_153 1 rfl ?_
              refine aw_aload_n (i := 0) rfl d_X12_goOn_154 0 rfl ?_
              refine aw_getr (k0 := 41) kc_12 (ws_1 w15) (Nat.le_of_ble_eq_true rfl) tw_1783 d_X12_goOn_155 rfl (wr_1_41 w15) ?_
              refine aw_iload_n (i := 2) rfl d_X12_goOn_158 2 rfl ?_
              obtain ⟨b22, k⟩ := k
              refine aw_iald (ws_230 w15) b22 d_X12_goOn_159 ?_
              refine aw_Vi 1 [.int x1, .int (h_i h14 230 (((150 * (h_i h 212 x1.toNatClampNeg)) + (h_i h 213 x1.toNatClampNeg)) : Int32).toNatClampNeg)] [] d_X12_goOn_160 (cV_X12_comes (d + 1) 0 0) kc_12 (ws_1 w15) tw_2356 rfl (rr0 (Nat.le_of_ble_eq_true rfl) (Nat.le_of_ble_eq_true rfl)) (Nat.le_of_ble_eq_true rfl) xs0 k (fun r25 h23 kk => ?_)
              obtain ⟨w24, k⟩ := kk
              refine aw_if_eq (tgt := 167) d_X12_goOn_163 rfl (fun c26 => ?_) (fun c26 => ?_)
              · have k := k.1 c26
                refine aw_goto (tgt := 197) d_X12_goOn_167 rfl ?_
                refine aw_aload_n (i := 0) rfl d_X12_goOn_197 0 rfl ?_
                refine aw_getr (k0 := 17) kc_12 (ws_1 w24) (Nat.le_of_ble_eq_true rfl) tw_1759 d_X12_goOn_198 rfl (wr_1_17 w24) ?_
                refine aw_iload_n (i := 1) rfl d_X12_goOn_201 1 rfl ?_
                refine aw_dup2 d_X12_goOn_202 ⟨rfl, rfl⟩ ?_
                obtain ⟨b27, k⟩ := k
                refine aw_iald (ws_213 w24) b27 d_X12_goOn_203 ?_
                refine aw_iconst (v := 1) d_X12_goOn_204 ic_1 ?_
                refine aw_iadd d_X12_goOn_205 ?_
                obtain ⟨b28, k⟩ := k
                refine aw_iast (ws_213 w24) b28 d_X12_goOn_206 ?_
                refine aw_goto (tgt := 0) d_X12_goOn_207 rfl ?_
                exact aw_lvp [0, 1] [(0, .ref 1), (1, .int x1)] rfl k
              · have k := k.2 c26
                exact aw_vret rfl d_X12_goOn_166 ⟨Nat.le_refl _, Nat.le_refl _⟩ ⟨rfl, k⟩
          · have k := k.2 c18
            refine aw_iload d_X12_goOn_117 4 rfl ?_
            refine aw_iconst (v := (-1)) d_X12_goOn_119 ic_m1 ?_
            refine aw_icmp_ne (tgt := 147) d_X12_goOn_120 rfl (fun c29 => ?_) (fun c29 => ?_)
            · have k := k.1 c29
              refine aw_iload_n (i := 3) rfl d_X12_goOn_147 3 rfl ?_
              refine aw_iconst (v := 2) d_X12_goOn_148 ic_2 ?_
              refine aw_icmp_ne (tgt := 167) d_X12_goOn_149 rfl (fun c30 => ?_) (fun c30 => ?_)
              · have k := k.1 c30
                refine aw_goto (tgt := 197) d_X12_goOn_167 rfl ?_
                refine aw_aload_n (i := 0) rfl d_X12_goOn_197 0 rfl ?_
                refine aw_getr (k0 := 17) kc_12 (ws_1 w15) (Nat.le_of_ble_eq_true rfl) tw_1759 d_X12_goOn_198 rfl (wr_1_17 w15) ?_
                refine aw_iload_n (i := 1) rfl d_X12_goOn_201 1 rfl ?_
                refine aw_dup2 d_X12_goOn_202 ⟨rfl, rfl⟩ ?_
                obtain ⟨b31, k⟩ := k
                refine aw_iald (ws_213 w15) b31 d_X12_goOn_203 ?_
                refine aw_iconst (v := 1) d_X12_goOn_204 ic_1 ?_
                refine aw_iadd d_X12_goOn_205 ?_
                obtain ⟨b32, k⟩ := k
                refine aw_iast (ws_213 w15) b32 d_X12_goOn_206 ?_
                refine aw_goto (tgt := 0) d_X12_goOn_207 rfl ?_
                exact aw_lvp [0, 1] [(0, .ref 1), (1, .int x1)] rfl k
              · have k := k.2 c30
                refine aw_aload_n (i := 0) rfl d_X12_goOn_152 0 rfl ?_
                refine aw_iload_n (i := 1) rfl d_X12_goOn_153 1 rfl ?_
                refine aw_aload_n (i := 0) rfl d_X12_goOn_154 0 rfl ?_
                refine aw_getr (k0 := 41) kc_12 (ws_1 w15) (Nat.le_of_ble_eq_true rfl) tw_1783 d_X12_goOn_155 rfl (wr_1_41 w15) ?_
                refine aw_iload_n (i := 2) rfl d_X12_goOn_158 2 rfl ?_
                obtain ⟨b33, k⟩ := k
                refine aw_iald (ws_230 w15) b33 d_X12_goOn_159 ?_
                refine aw_Vi 1 [.int x1, .int (h_i h14 230 (((150 * (h_i h 212 x1.toNatClampNeg)) + (h_i h 213 x1.toNatClampNeg)) : Int32).toNatClampNeg)] [] d_X12_goOn_160 (cV_X12_comes (d + 1) 0 0) kc_12 (ws_1 w15) tw_2356 rfl (rr0 (Nat.le_of_ble_eq_true rfl) (Nat.le_of_ble_eq_true rfl)) (Nat.le_of_ble_eq_true rfl) xs0 k (fun r36 h34 kk => ?_)
                obtain ⟨w35, k⟩ := kk
                refine aw_if_eq (tgt := 167) d_X12_goOn_163 rfl (fun c37 => ?_) (fun c37 => ?_)
                · have k := k.1 c37
                  refine aw_goto (tgt := 197) d_X12_goOn_167 rfl ?_
                  refine aw_aload_n (i := 0) rfl d_X12_goOn_197 0 rfl ?_
                  refine aw_getr (k0 := 17) kc_12 (ws_1 w35) (Nat.le_of_ble_eq_true rfl) tw_1759 d_X12_goOn_198 rfl (wr_1_17 w35) ?_
                  refine aw_iload_n (i := 1) rfl d_X12_goOn_201 1 rfl ?_
                  refine aw_dup2 d_X12_goOn_202 ⟨rfl, rfl⟩ ?_
                  obtain ⟨b38, k⟩ := k
                  refine aw_iald (ws_213 w35) b38 d_X12_goOn_203 ?_
                  refine aw_iconst (v := 1) d_X12_goOn_204 ic_1 ?_
                  refine aw_iadd d_X12_goOn_205 ?_
                  obtain ⟨b39, k⟩ := k
                  refine aw_iast (ws_213 w35) b39 d_X12_goOn_206 ?_
                  refine aw_goto (tgt := 0) d_X12_goOn_207 rfl ?_
                  exact aw_lvp [0, 1] [(0, .ref 1), (1, .int x1)] rfl k
                · have k := k.2 c37
                  exact aw_vret rfl d_X12_goOn_166 ⟨Nat.le_refl _, Nat.le_refl _⟩ ⟨rfl, k⟩
            · have k := k.2 c29
              refine aw_aload_n (i := 0) rfl d_X12_goOn_123 0 rfl ?_
              refine aw_aload_n (i := 0) rfl d_X12_goOn_124 0 rfl ?_
              refine aw_getr (k0 := 20) kc_12 (ws_1 w15) (Nat.le_of_ble_eq_true rfl) tw_1762 d_X12_goOn_125 rfl (wr_1_20 w15) ?_
              refine aw_iload_n (i := 1) rfl d_X12_goOn_128 1 rfl ?_
              obtain ⟨b40, k⟩ := k
              refine aw_iald (ws_216 w15) b40 d_X12_goOn_129 ?_
              refine aw_iconst (v := 2) d_X12_goOn_130 ic_2 ?_
              refine aw_Vv 1 [.int (h_i h14 216 x1.toNatClampNeg), .int 2] [] d_X12_goOn_131 (cV_X12_miss (d + 0) 0 0) kc_12 (ws_1 w15) tw_2352 rfl (rr0 (Nat.le_of_ble_eq_true rfl) (Nat.le_of_ble_eq_true rfl)) (Nat.le_of_ble_eq_true rfl) xs0 k (fun h41 kk => ?_)
              obtain ⟨w42, k⟩ := kk
              refine aw_aload_n (i := 0) rfl d_X12_goOn_134 0 rfl ?_
              refine aw_getr (k0 := 20) kc_12 (ws_1 w42) (Nat.le_of_ble_eq_true rfl) tw_1762 d_X12_goOn_135 rfl (wr_1_20 w42) ?_
              refine aw_iload_n (i := 1) rfl d_X12_goOn_138 1 rfl ?_
              refine aw_dup2 d_X12_goOn_139 ⟨rfl, rfl⟩ ?_
              obtain ⟨b44, k⟩ := k
              refine aw_iald (ws_216 w42) b44 d_X12_goOn_140 ?_
              refine aw_iconst (v := 1) d_X12_goOn_141 ic_1 ?_
              refine aw_iadd d_X12_goOn_142 ?_
              obtain ⟨b45, k⟩ := k
              refine aw_iast (ws_216 w42) b45 d_X12_goOn_143 ?_
              refine aw_goto (tgt := 167) d_X12_goOn_144 rfl ?_
              refine aw_goto (tgt := 197) d_X12_goOn_167 rfl ?_
              refine aw_aload_n (i := 0) rfl d_X12_goOn_197 0 rfl ?_
              refine aw_getr (k0 := 17) kc_12 (ws_1 w42) (Nat.le_of_ble_eq_true rfl) tw_1759 d_X12_goOn_198 rfl (wr_1_17 w42) ?_
              refine aw_iload_n (i := 1) rfl d_X12_goOn_201 1 rfl ?_
              refine aw_dup2 d_X12_goOn_202 ⟨rfl, rfl⟩ ?_
              obtain ⟨b46, k⟩ := k
              refine aw_iald (ws_213 w42) b46 d_X12_goOn_203 ?_
              refine aw_vi (v2 := (h_i h41 213 x1.toNatClampNeg)) (rfl) ?_
              refine aw_iconst (v := 1) d_X12_goOn_204 ic_1 ?_
              refine aw_iadd d_X12_goOn_205 ?_
              obtain ⟨b47, k⟩ := k
              refine aw_iast (ws_213 w42) b47 d_X12_goOn_206 ?_
              refine aw_goto (tgt := 0) d_X12_goOn_207 rfl ?_
              exact aw_lvp [0, 1] [(0, .ref 1), (1, .int x1)] rfl k
        · have k := k.2 c17
          refine aw_aload_n (i := 0) rfl d_X12_goOn_100 0 rfl ?_
          refine aw_iload_n (i := 1) rfl d_X12_goOn_101 1 rfl ?_
          refine aw_aload_n (i := 0) rfl d_X12_goOn_102 0 rfl ?_
          refine aw_getr (k0 := 40) kc_12 (ws_1 w15) (Nat.le_of_ble_eq_true rfl) tw_1782 d_X12_goOn_103 rfl (wr_1_40 w15) ?_
          refine aw_iload_n (i := 2) rfl d_X12_goOn_106 2 rfl ?_
          obtain ⟨b48, k⟩ := k
          refine aw_iald (ws_229 w15) b48 d_X12_goOn_107 ?_
          refine aw_Vv 1 [.int x1, .int (h_i h14 229 (((150 * (h_i h 212 x1.toNatClampNeg)) + (h_i h 213 x1.toNatClampNeg)) : Int32).toNatClampNeg)] [] d_X12_goOn_108 (cV_X12_setOut (d + 1) 0 0) kc_12 (ws_1 w15) tw_2348 rfl (rr0 (Nat.le_of_ble_eq_true rfl) (Nat.le_of_ble_eq_true rfl)) (Nat.le_of_ble_eq_true rfl) xs0 k (fun h49 kk => ?_)
          obtain ⟨w50, k⟩ := kk
          exact aw_vret rfl d_X12_goOn_111 ⟨Nat.le_refl _, Nat.le_refl _⟩ ⟨rfl, k⟩
      · have k := k.2 c11
        refine aw_iload_n (i := 3) rfl d_X12_goOn_72 3 rfl ?_
        refine aw_iconst (v := 2) d_X12_goOn_73 ic_2 ?_
        refine aw_icmp_ne (tgt := 170) d_X12_goOn_74 rfl (fun c52 => ?_) (fun c52 => ?_)
        · have k := k.1 c52
          refine aw_aload_n (i := 0) rfl d_X12_goOn_170 0 rfl ?_
          refine aw_getr (k0 := 15) kc_12 (ws_1 w) (Nat.le_of_ble_eq_true rfl) tw_1757 d_X12_goOn_171 rfl (wr_1_15 w) ?_
          refine aw_iload_n (i := 1) rfl d_X12_goOn_174 1 rfl ?_
          refine aw_aload_n (i := 0) rfl d_X12_goOn_175 0 rfl ?_
          refine aw_geti (k0 := 0) kc_12 (ws_1 w) (Nat.le_of_ble_eq_true rfl) tw_1742 d_X12_goOn_176 rfl ?_
          refine aw_vi (v2 := (h_i h 1 0)) (rfl) ?_
          refine aw_iload_n (i := 3) rfl d_X12_goOn_179 3 rfl ?_
          refine aw_iconst (v := 1) d_X12_goOn_180 ic_1 ?_
          refine aw_icmp_ne (tgt := 193) d_X12_goOn_181 rfl (fun c53 => ?_) (fun c53 => ?_)
          · have k := k.1 c53
            refine aw_iconst (v := 1) d_X12_goOn_193 ic_1 ?_
            refine aw_iadd d_X12_goOn_194 ?_
            obtain ⟨b54, k⟩ := k
            refine aw_iast (ws_211 w) b54 d_X12_goOn_195 ?_
            exact aw_vret rfl d_X12_goOn_196 ⟨Nat.le_refl _, Nat.le_refl _⟩ ⟨rfl, k⟩
          · have k := k.2 c53
            refine aw_aload_n (i := 0) rfl d_X12_goOn_184 0 rfl ?_
            refine aw_getr (k0 := 40) kc_12 (ws_1 w) (Nat.le_of_ble_eq_true rfl) tw_1782 d_X12_goOn_185 rfl (wr_1_40 w) ?_
            refine aw_iload_n (i := 2) rfl d_X12_goOn_188 2 rfl ?_
            obtain ⟨b55, k⟩ := k
            refine aw_iald (ws_229 w) b55 d_X12_goOn_189 ?_
            refine aw_vi (v2 := (h_i h 229 (((150 * (h_i h 212 x1.toNatClampNeg)) + (h_i h 213 x1.toNatClampNeg)) : Int32).toNatClampNeg)) (rfl) ?_
            refine aw_goto (tgt := 194) d_X12_goOn_190 rfl ?_
            refine aw_iadd d_X12_goOn_194 ?_
            obtain ⟨b56, k⟩ := k
            refine aw_iast (ws_211 w) b56 d_X12_goOn_195 ?_
            exact aw_vret rfl d_X12_goOn_196 ⟨Nat.le_refl _, Nat.le_refl _⟩ ⟨rfl, k⟩
        · have k := k.2 c52
          refine aw_aload_n (i := 0) rfl d_X12_goOn_77 0 rfl ?_
          refine aw_aload_n (i := 0) rfl d_X12_goOn_78 0 rfl ?_
          refine aw_getr (k0 := 13) kc_12 (ws_1 w) (Nat.le_of_ble_eq_true rfl) tw_1755 d_X12_goOn_79 rfl (wr_1_13 w) ?_
          refine aw_iload_n (i := 1) rfl d_X12_goOn_82 1 rfl ?_
          obtain ⟨b57, k⟩ := k
          refine aw_iald (ws_209 w) b57 d_X12_goOn_83 ?_
          refine aw_vi (v2 := (h_i h 209 x1.toNatClampNeg)) (rfl) ?_
          refine aw_aload_n (i := 0) rfl d_X12_goOn_84 0 rfl ?_
          refine aw_getr (k0 := 40) kc_12 (ws_1 w) (Nat.le_of_ble_eq_true rfl) tw_1782 d_X12_goOn_85 rfl (wr_1_40 w) ?_
          refine aw_iload_n (i := 2) rfl d_X12_goOn_88 2 rfl ?_
          obtain ⟨b58, k⟩ := k
          refine aw_iald (ws_229 w) b58 d_X12_goOn_89 ?_
          refine aw_vi (v2 := (h_i h 229 (((150 * (h_i h 212 x1.toNatClampNeg)) + (h_i h 213 x1.toNatClampNeg)) : Int32).toNatClampNeg)) (rfl) ?_
          refine aw_Vi 1 [.int (h_i h 209 x1.toNatClampNeg), .int (h_i h 229 (((150 * (h_i h 212 x1.toNatClampNeg)) + (h_i h 213 x1.toNatClampNeg)) : Int32).toNatClampNeg)] [] d_X12_goOn_90 (cV_X12_walkOf (d + 0) 0 0) kc_12 (ws_1 w) tw_2150 rfl (rr0 (Nat.le_of_ble_eq_true rfl) (Nat.le_of_ble_eq_true rfl)) (Nat.le_of_ble_eq_true rfl) xs0 k (fun r61 h59 kk => ?_)
          obtain ⟨w60, k⟩ := kk
          refine aw_istore [(0, .ref 1), (1, .int x1), (2, .int ((150 * (h_i h 212 x1.toNatClampNeg)) + (h_i h 213 x1.toNatClampNeg))), (3, .int (h_i h 228 (((150 * (h_i h 212 x1.toNatClampNeg)) + (h_i h 213 x1.toNatClampNeg)) : Int32).toNatClampNeg)), (4, .int r61)] d_X12_goOn_93 (Nat.le_of_ble_eq_true rfl) rfl rfl ?_
          refine aw_iload d_X12_goOn_95 4 rfl ?_
          refine aw_if_le (tgt := 112) d_X12_goOn_97 rfl (fun c62 => ?_) (fun c62 => ?_)
          · have k := k.1 c62
            refine aw_iload_n (i := 3) rfl d_X12_goOn_112 3 rfl ?_
            refine aw_iconst (v := 2) d_X12_goOn_113 ic_2 ?_
            refine aw_icmp_ne (tgt := 147) d_X12_goOn_114 rfl (fun c63 => ?_) (fun c63 => ?_)
            · have k := k.1 c63
              refine aw_iload_n (i := 3) rfl d_X12_goOn_147 3 rfl ?_
              refine aw_iconst (v := 2) d_X12_goOn_148 ic_2 ?_
              refine aw_icmp_ne (tgt := 167) d_X12_goOn_149 rfl (fun c64 => ?_) (fun c64 => ?_)
              · have k := k.1 c64
                refine aw_goto (tgt := 197) d_X12_goOn_167 rfl ?_
                refine aw_aload_n (i := 0) rfl d_X12_goOn_197 0 rfl ?_
                refine aw_getr (k0 := 17) kc_12 (ws_1 w60) (Nat.le_of_ble_eq_true rfl) tw_1759 d_X12_goOn_198 rfl (wr_1_17 w60) ?_
                refine aw_iload_n (i := 1) rfl d_X12_goOn_201 1 rfl ?_
                refine aw_dup2 d_X12_goOn_202 ⟨rfl, rfl⟩ ?_
                obtain ⟨b65, k⟩ := k
                refine aw_iald (ws_213 w60) b65 d_X12_goOn_203 ?_
                refine aw_iconst (v := 1) d_X12_goOn_204 ic_1 ?_
                refine aw_iadd d_X12_goOn_205 ?_
                obtain ⟨b66, k⟩ := k
                refine aw_iast (ws_213 w60) b66 d_X12_goOn_206 ?_
                refine aw_goto (tgt := 0) d_X12_goOn_207 rfl ?_
                exact aw_lvp [0, 1] [(0, .ref 1), (1, .int x1)] rfl k
              · have k := k.2 c64
                refine aw_aload_n (i := 0) rfl d_X12_goOn_152 0 rfl ?_
                refine aw_iload_n (i := 1) rfl d_X12_goOn_153 1 rfl ?_
                refine aw_aload_n (i := 0) rfl d_X12_goOn_154 0 rfl ?_
                refine aw_getr (k0 := 41) kc_12 (ws_1 w60) (Nat.le_of_ble_eq_true rfl) tw_1783 d_X12_goOn_155 rfl (wr_1_41 w60) ?_
                refine aw_iload_n (i := 2) rfl d_X12_goOn_158 2 rfl ?_
                obtain ⟨b67, k⟩ := k
                refine aw_iald (ws_230 w60) b67 d_X12_goOn_159 ?_
                refine aw_Vi 1 [.int x1, .int (h_i h59 230 (((150 * (h_i h 212 x1.toNatClampNeg)) + (h_i h 213 x1.toNatClampNeg)) : Int32).toNatClampNeg)] [] d_X12_goOn_160 (cV_X12_comes (d + 1) 0 0) kc_12 (ws_1 w60) tw_2356 rfl (rr0 (Nat.le_of_ble_eq_true rfl) (Nat.le_of_ble_eq_true rfl)) (Nat.le_of_ble_eq_true rfl) xs0 k (fun r70 h68 kk => ?_)
                obtain ⟨w69, k⟩ := kk
                refine aw_if_eq (tgt := 167) d_X12_goOn_163 rfl (fun c71 => ?_) (fun c71 => ?_)
                · have k := k.1 c71
                  refine aw_goto (tgt := 197) d_X12_goOn_167 rfl ?_
                  refine aw_aload_n (i := 0) rfl d_X12_goOn_197 0 rfl ?_
                  refine aw_getr (k0 := 17) kc_12 (ws_1 w69) (Nat.le_of_ble_eq_true rfl) tw_1759 d_X12_goOn_198 rfl (wr_1_17 w69) ?_
                  refine aw_iload_n (i := 1) rfl d_X12_goOn_201 1 rfl ?_
                  refine aw_dup2 d_X12_goOn_202 ⟨rfl, rfl⟩ ?_
                  obtain ⟨b72, k⟩ := k
                  refine aw_iald (ws_213 w69) b72 d_X12_goOn_203 ?_
                  refine aw_iconst (v := 1) d_X12_goOn_204 ic_1 ?_
                  refine aw_iadd d_X12_goOn_205 ?_
                  obtain ⟨b73, k⟩ := k
                  refine aw_iast (ws_213 w69) b73 d_X12_goOn_206 ?_
                  refine aw_goto (tgt := 0) d_X12_goOn_207 rfl ?_
                  exact aw_lvp [0, 1] [(0, .ref 1), (1, .int x1)] rfl k
                · have k := k.2 c71
                  exact aw_vret rfl d_X12_goOn_166 ⟨Nat.le_refl _, Nat.le_refl _⟩ ⟨rfl, k⟩
            · have k := k.2 c63
              refine aw_iload d_X12_goOn_117 4 rfl ?_
              refine aw_iconst (v := (-1)) d_X12_goOn_119 ic_m1 ?_
              refine aw_icmp_ne (tgt := 147) d_X12_goOn_120 rfl (fun c74 => ?_) (fun c74 => ?_)
              · have k := k.1 c74
                refine aw_iload_n (i := 3) rfl d_X12_goOn_147 3 rfl ?_
                refine aw_iconst (v := 2) d_X12_goOn_148 ic_2 ?_
                refine aw_icmp_ne (tgt := 167) d_X12_goOn_149 rfl (fun c75 => ?_) (fun c75 => ?_)
                · have k := k.1 c75
                  refine aw_goto (tgt := 197) d_X12_goOn_167 rfl ?_
                  refine aw_aload_n (i := 0) rfl d_X12_goOn_197 0 rfl ?_
                  refine aw_getr (k0 := 17) kc_12 (ws_1 w60) (Nat.le_of_ble_eq_true rfl) tw_1759 d_X12_goOn_198 rfl (wr_1_17 w60) ?_
                  refine aw_iload_n (i := 1) rfl d_X12_goOn_201 1 rfl ?_
                  refine aw_dup2 d_X12_goOn_202 ⟨rfl, rfl⟩ ?_
                  obtain ⟨b76, k⟩ := k
                  refine aw_iald (ws_213 w60) b76 d_X12_goOn_203 ?_
                  refine aw_iconst (v := 1) d_X12_goOn_204 ic_1 ?_
                  refine aw_iadd d_X12_goOn_205 ?_
                  obtain ⟨b77, k⟩ := k
                  refine aw_iast (ws_213 w60) b77 d_X12_goOn_206 ?_
                  refine aw_goto (tgt := 0) d_X12_goOn_207 rfl ?_
                  exact aw_lvp [0, 1] [(0, .ref 1), (1, .int x1)] rfl k
                · have k := k.2 c75
                  refine aw_aload_n (i := 0) rfl d_X12_goOn_152 0 rfl ?_
                  refine aw_iload_n (i := 1) rfl d_X12_goOn_153 1 rfl ?_
                  refine aw_aload_n (i := 0) rfl d_X12_goOn_154 0 rfl ?_
                  refine aw_getr (k0 := 41) kc_12 (ws_1 w60) (Nat.le_of_ble_eq_true rfl) tw_1783 d_X12_goOn_155 rfl (wr_1_41 w60) ?_
                  refine aw_iload_n (i := 2) rfl d_X12_goOn_158 2 rfl ?_
                  obtain ⟨b78, k⟩ := k
                  refine aw_iald (ws_230 w60) b78 d_X12_goOn_159 ?_
                  refine aw_Vi 1 [.int x1, .int (h_i h59 230 (((150 * (h_i h 212 x1.toNatClampNeg)) + (h_i h 213 x1.toNatClampNeg)) : Int32).toNatClampNeg)] [] d_X12_goOn_160 (cV_X12_comes (d + 1) 0 0) kc_12 (ws_1 w60) tw_2356 rfl (rr0 (Nat.le_of_ble_eq_true rfl) (Nat.le_of_ble_eq_true rfl)) (Nat.le_of_ble_eq_true rfl) xs0 k (fun r81 h79 kk => ?_)
                  obtain ⟨w80, k⟩ := kk
                  refine aw_if_eq (tgt := 167) d_X12_goOn_163 rfl (fun c82 => ?_) (fun c82 => ?_)
                  · have k := k.1 c82
                    refine aw_goto (tgt := 197) d_X12_goOn_167 rfl ?_
                    refine aw_aload_n (i := 0) rfl d_X12_goOn_197 0 rfl ?_
                    refine aw_getr (k0 := 17) kc_12 (ws_1 w80) (Nat.le_of_ble_eq_true rfl) tw_1759 d_X12_goOn_198 rfl (wr_1_17 w80) ?_
                    refine aw_iload_n (i := 1) rfl d_X12_goOn_201 1 rfl ?_
                    refine aw_dup2 d_X12_goOn_202 ⟨rfl, rfl⟩ ?_
                    obtain ⟨b83, k⟩ := k
                    refine aw_iald (ws_213 w80) b83 d_X12_goOn_203 ?_
                    refine aw_iconst (v := 1) d_X12_goOn_204 ic_1 ?_
                    refine aw_iadd d_X12_goOn_205 ?_
                    obtain ⟨b84, k⟩ := k
                    refine aw_iast (ws_213 w80) b84 d_X12_goOn_206 ?_
                    refine aw_goto (tgt := 0) d_X12_goOn_207 rfl ?_
                    exact aw_lvp [0, 1] [(0, .ref 1), (1, .int x1)] rfl k
                  · have k := k.2 c82
                    exact aw_vret rfl d_X12_goOn_166 ⟨Nat.le_refl _, Nat.le_refl _⟩ ⟨rfl, k⟩
              · have k := k.2 c74
                refine aw_aload_n (i := 0) rfl d_X12_goOn_123 0 rfl ?_
                refine aw_aload_n (i := 0) rfl d_X12_goOn_124 0 rfl ?_
                refine aw_getr (k0 := 20) kc_12 (ws_1 w60) (Nat.le_of_ble_eq_true rfl) tw_1762 d_X12_goOn_125 rfl (wr_1_20 w60) ?_
                refine aw_iload_n (i := 1) rfl d_X12_goOn_128 1 rfl ?_
                obtain ⟨b85, k⟩ := k
                refine aw_iald (ws_216 w60) b85 d_X12_goOn_129 ?_
                refine aw_iconst (v := 2) d_X12_goOn_130 ic_2 ?_
                refine aw_Vv 1 [.int (h_i h59 216 x1.toNatClampNeg), .int 2] [] d_X12_goOn_131 (cV_X12_miss (d + 0) 0 0) kc_12 (ws_1 w60) tw_2352 rfl (rr0 (Nat.le_of_ble_eq_true rfl) (Nat.le_of_ble_eq_true rfl)) (Nat.le_of_ble_eq_true rfl) xs0 k (fun h86 kk => ?_)
                obtain ⟨w87, k⟩ := kk
                refine aw_aload_n (i := 0) rfl d_X12_goOn_134 0 rfl ?_
                refine aw_getr (k0 := 20) kc_12 (ws_1 w87) (Nat.le_of_ble_eq_true rfl) tw_1762 d_X12_goOn_135 rfl (wr_1_20 w87) ?_
                refine aw_iload_n (i := 1) rfl d_X12_goOn_138 1 rfl ?_
                refine aw_dup2 d_X12_goOn_139 ⟨rfl, rfl⟩ ?_
                obtain ⟨b89, k⟩ := k
                refine aw_iald (ws_216 w87) b89 d_X12_goOn_140 ?_
                refine aw_iconst (v := 1) d_X12_goOn_141 ic_1 ?_
                refine aw_iadd d_X12_goOn_142 ?_
                obtain ⟨b90, k⟩ := k
                refine aw_iast (ws_216 w87) b90 d_X12_goOn_143 ?_
                refine aw_goto (tgt := 167) d_X12_goOn_144 rfl ?_
                refine aw_goto (tgt := 197) d_X12_goOn_167 rfl ?_
                refine aw_aload_n (i := 0) rfl d_X12_goOn_197 0 rfl ?_
                refine aw_getr (k0 := 17) kc_12 (ws_1 w87) (Nat.le_of_ble_eq_true rfl) tw_1759 d_X12_goOn_198 rfl (wr_1_17 w87) ?_
                refine aw_iload_n (i := 1) rfl d_X12_goOn_201 1 rfl ?_
                refine aw_dup2 d_X12_goOn_202 ⟨rfl, rfl⟩ ?_
                obtain ⟨b91, k⟩ := k
                refine aw_iald (ws_213 w87) b91 d_X12_goOn_203 ?_
                refine aw_vi (v2 := (h_i h86 213 x1.toNatClampNeg)) (rfl) ?_
                refine aw_iconst (v := 1) d_X12_goOn_204 ic_1 ?_
                refine aw_iadd d_X12_goOn_205 ?_
                obtain ⟨b92, k⟩ := k
                refine aw_iast (ws_213 w87) b92 d_X12_goOn_206 ?_
                refine aw_goto (tgt := 0) d_X12_goOn_207 rfl ?_
                exact aw_lvp [0, 1] [(0, .ref 1), (1, .int x1)] rfl k
          · have k := k.2 c62
            refine aw_aload_n (i := 0) rfl d_X12_goOn_100 0 rfl ?_
            refine aw_iload_n (i := 1) rfl d_X12_goOn_101 1 rfl ?_
            refine aw_aload_n (i := 0) rfl d_X12_goOn_102 0 rfl ?_
            refine aw_getr (k0 := 40) kc_12 (ws_1 w60) (Nat.le_of_ble_eq_true rfl) tw_1782 d_X12_goOn_103 rfl (wr_1_40 w60) ?_
            refine aw_iload_n (i := 2) rfl d_X12_goOn_106 2 rfl ?_
            obtain ⟨b93, k⟩ := k
            refine aw_iald (ws_229 w60) b93 d_X12_goOn_107 ?_
            refine aw_Vv 1 [.int x1, .int (h_i h59 229 (((150 * (h_i h 212 x1.toNatClampNeg)) + (h_i h 213 x1.toNatClampNeg)) : Int32).toNatClampNeg)] [] d_X12_goOn_108 (cV_X12_setOut (d + 1) 0 0) kc_12 (ws_1 w60) tw_2348 rfl (rr0 (Nat.le_of_ble_eq_true rfl) (Nat.le_of_ble_eq_true rfl)) (Nat.le_of_ble_eq_true rfl) xs0 k (fun h94 kk => ?_)
            obtain ⟨w95, k⟩ := kk
            exact aw_vret rfl d_X12_goOn_111 ⟨Nat.le_refl _, Nat.le_refl _⟩ ⟨rfl, k⟩
    · have k := k.2 c6
      refine aw_aload_n (i := 0) rfl d_X12_goOn_30 0 rfl ?_
      refine aw_iload_n (i := 1) rfl d_X12_goOn_31 1 rfl ?_
      refine aw_Vv 1 [.int x1] [] d_X12_goOn_32 (cV_X12_goHome (d + 2) 0 0) kc_12 (ws_1 w) tw_2340 rfl (rr0 (Nat.le_of_ble_eq_true rfl) (Nat.le_of_ble_eq_true rfl)) (Nat.le_of_ble_eq_true rfl) xs0 k (fun h97 kk => ?_)
      obtain ⟨w98, k⟩ := kk
      exact aw_vret rfl d_X12_goOn_35 ⟨Nat.le_refl _, Nat.le_refl _⟩ ⟨rfl, k⟩
theorem t_X12_goOn_0 (d : Nat) (h : Hp_) (w : Wf h) (x1 : Int32) (K : Hp_ → Prop) (k : vp_in x1 12 ∧ ((¬ (h_i h 208 x1.toNatClampNeg) = 1 → K h) ∧ ((h_i h 208 x1.toNatClampNeg) = 1 → vp_in x1 12 ∧ (vp_in x1 12 ∧ (vp_in (h_i h 212 x1.toNatClampNeg) 12 ∧ ((¬ (h_i h 213 x1.toNatClampNeg) = (h_i h 227 ((h_i h 212 x1.toNatClampNeg) : Int32).toNatClampNeg) → vp_in x1 12 ∧ (vp_in x1 12 ∧ (vp_in ((150 * (h_i h 212 x1.toNatClampNeg)) + (h_i h 213 x1.toNatClampNeg)) 1800 ∧ (vp_in x1 12 ∧ (((h_i h 228 (((150 * (h_i h 212 x1.toNatClampNeg)) + (h_i h 213 x1.toNatClampNeg)) : Int32).toNatClampNeg) = 0 → vp_in x1 12 ∧ (vp_in ((150 * (h_i h 212 x1.toNatClampNeg)) + (h_i h 213 x1.toNatClampNeg)) 1800 ∧ (Ci (m_X12_walkOf (d + 0) 0 0) [.ref 1, .int (h_i h 209 x1.toNatClampNeg), .int (h_i h 229 (((150 * (h_i h 212 x1.toNatClampNeg)) + (h_i h 213 x1.toNatClampNeg)) : Int32).toNatClampNeg)] (h_im h 211 x1.toNatClampNeg (-1)) (fun r115 h113 => Wf h113 ∧ ((r115 ≤ 0 → (¬ (h_i h 228 (((150 * (h_i h 212 x1.toNatClampNeg)) + (h_i h 213 x1.toNatClampNeg)) : Int32).toNatClampNeg) = 2 → (¬ (h_i h 228 (((150 * (h_i h 212 x1.toNatClampNeg)) + (h_i h 213 x1.toNatClampNeg)) : Int32).toNatClampNeg) = 2 → vp_in x1 12 ∧ (vp_in x1 12 ∧ (AW (m_X12_goOn (d + 3) 0 0) 0 0 0 [(0, .ref 1), (1, .int x1)] [] (h_im h113 213 x1.toNatClampNeg ((h_i h113 213 x1.toNatClampNeg) + 1)) (kV K)))) ∧ ((h_i h 228 (((150 * (h_i h 212 x1.toNatClampNeg)) + (h_i h 213 x1.toNatClampNeg)) : Int32).toNatClampNeg) = 2 → vp_in ((150 * (h_i h 212 x1.toNatClampNeg)) + (h_i h 213 x1.toNatClampNeg)) 1800 ∧ (Ci (m_X12_comes (d + 1) 0 0) [.ref 1, .int x1, .int (h_i h113 230 (((150 * (h_i h 212 x1.toNatClampNeg)) + (h_i h 213 x1.toNatClampNeg)) : Int32).toNatClampNeg)] h113 (fun r124 h122 => Wf h122 ∧ ((r124 = 0 → vp_in x1 12 ∧ (vp_in x1 12 ∧ (AW (m_X12_goOn (d + 3) 0 0) 0 0 0 [(0, .ref 1), (1, .int x1)] [] (h_im h122 213 x1.toNatClampNeg ((h_i h122 213 x1.toNatClampNeg) + 1)) (kV K)))) ∧ (¬ r124 = 0 → K h122)))))) ∧ ((h_i h 228 (((150 * (h_i h 212 x1.toNatClampNeg)) + (h_i h 213 x1.toNatClampNeg)) : Int32).toNatClampNeg) = 2 → (¬ r115 = (-1) → (¬ (h_i h 228 (((150 * (h_i h 212 x1.toNatClampNeg)) + (h_i h 213 x1.toNatClampNeg)) : Int32).toNatClampNeg) = 2 → vp_in x1 12 ∧ (vp_in x1 12 ∧ (AW (m_X12_goOn (d + 3) 0 0) 0 0 0 [(0, .ref 1), (1, .int x1)] [] (h_im h113 213 x1.toNatClampNeg ((h_i h113 213 x1.toNatClampNeg) + 1)) (kV K)))) ∧ ((h_i h 228 (((150 * (h_i h 212 x1.toNatClampNeg)) + (h_i h 213 x1.toNatClampNeg)) : Int32).toNatClampNeg) = 2 → vp_in ((150 * (h_i h 212 x1.toNatClampNeg)) + (h_i h 213 x1.toNatClampNeg)) 1800 ∧ (Ci (m_X12_comes (d + 1) 0 0) [.ref 1, .int x1, .int (h_i h113 230 (((150 * (h_i h 212 x1.toNatClampNeg)) + (h_i h 213 x1.toNatClampNeg)) : Int32).toNatClampNeg)] h113 (fun r135 h133 => Wf h133 ∧ ((r135 = 0 → vp_in x1 12 ∧ (vp_in x1 12 ∧ (AW (m_X12_goOn (d + 3) 0 0) 0 0 0 [(0, .ref 1), (1, .int x1)] [] (h_im h133 213 x1.toNatClampNeg ((h_i h133 213 x1.toNatClampNeg) + 1)) (kV K)))) ∧ (¬ r135 = 0 → K h133)))))) ∧ (r115 = (-1) → vp_in x1 12 ∧ (Cv (m_X12_miss (d + 0) 0 0) [.ref 1, .int (h_i h113 216 x1.toNatClampNeg), .int 2] h113 (fun h140 => Wf h140 ∧ (vp_in x1 12 ∧ (vp_in x1 12 ∧ (vp_in x1 12 ∧ (vp_in x1 12 ∧ (AW (m_X12_goOn (d + 3) 0 0) 0 0 0 [(0, .ref 1), (1, .int x1)] [] (h_im (h_im h140 216 x1.toNatClampNeg ((h_i h140 216 x1.toNatClampNeg) + 1)) 213 x1.toNatClampNeg ((h_i h140 213 x1.toNatClampNeg) + 1)) (kV K))))))))))) ∧ (¬ r115 ≤ 0 → vp_in ((150 * (h_i h 212 x1.toNatClampNeg)) + (h_i h 213 x1.toNatClampNeg)) 1800 ∧ (Cv (m_X12_setOut (d + 1) 0 0) [.ref 1, .int x1, .int (h_i h113 229 (((150 * (h_i h 212 x1.toNatClampNeg)) + (h_i h 213 x1.toNatClampNeg)) : Int32).toNatClampNeg)] h113 (fun h148 => Wf h148 ∧ (K h148))))))))) ∧ (¬ (h_i h 228 (((150 * (h_i h 212 x1.toNatClampNeg)) + (h_i h 213 x1.toNatClampNeg)) : Int32).toNatClampNeg) = 0 → (¬ (h_i h 228 (((150 * (h_i h 212 x1.toNatClampNeg)) + (h_i h 213 x1.toNatClampNeg)) : Int32).toNatClampNeg) = 2 → (¬ (h_i h 228 (((150 * (h_i h 212 x1.toNatClampNeg)) + (h_i h 213 x1.toNatClampNeg)) : Int32).toNatClampNeg) = 1 → vp_in x1 12 ∧ (K (h_im (h_im h 211 x1.toNatClampNeg (-1)) 211 x1.toNatClampNeg ((h_i h 1 0) + 1)))) ∧ ((h_i h 228 (((150 * (h_i h 212 x1.toNatClampNeg)) + (h_i h 213 x1.toNatClampNeg)) : Int32).toNatClampNeg) = 1 → vp_in ((150 * (h_i h 212 x1.toNatClampNeg)) + (h_i h 213 x1.toNatClampNeg)) 1800 ∧ (vp_in x1 12 ∧ (K (h_im (h_im h 211 x1.toNatClampNeg (-1)) 211 x1.toNatClampNeg ((h_i h 1 0) + (h_i h 229 (((150 * (h_i h 212 x1.toNatClampNeg)) + (h_i h 213 x1.toNatClampNeg)) : Int32).toNatClampNeg))))))) ∧ ((h_i h 228 (((150 * (h_i h 212 x1.toNatClampNeg)) + (h_i h 213 x1.toNatClampNeg)) : Int32).toNatClampNeg) = 2 → vp_in x1 12 ∧ (vp_in ((150 * (h_i h 212 x1.toNatClampNeg)) + (h_i h 213 x1.toNatClampNeg)) 1800 ∧ (Ci (m_X12_walkOf (d + 0) 0 0) [.ref 1, .int (h_i h 209 x1.toNatClampNeg), .int (h_i h 229 (((150 * (h_i h 212 x1.toNatClampNeg)) + (h_i h 213 x1.toNatClampNeg)) : Int32).toNatClampNeg)] (h_im h 211 x1.toNatClampNeg (-1)) (fun r160 h158 => Wf h158 ∧ ((r160 ≤ 0 → (¬ (h_i h 228 (((150 * (h_i h 212 x1.toNatClampNeg)) + (h_i h 213 x1.toNatClampNeg)) : Int32).toNatClampNeg) = 2 → (¬ (h_i h 228 (((150 * (h_i h 212 x1.toNatClampNeg)) + (h_i h 213 x1.toNatClampNeg)) : Int32).toNatClampNeg) = 2 → vp_in x1 12 ∧ (vp_in x1 12 ∧ (AW (m_X12_goOn (d + 3) 0 0) 0 0 0 [(0, .ref 1), (1, .int x1)] [] (h_im h158 213 x1.toNatClampNeg ((h_i h158 213 x1.toNatClampNeg) + 1)) (kV K)))) ∧ ((h_i h 228 (((150 * (h_i h 212 x1.toNatClampNeg)) + (h_i h 213 x1.toNatClampNeg)) : Int32).toNatClampNeg) = 2 → vp_in ((150 * (h_i h 212 x1.toNatClampNeg)) + (h_i h 213 x1.toNatClampNeg)) 1800 ∧ (Ci (m_X12_comes (d + 1) 0 0) [.ref 1, .int x1, .int (h_i h158 230 (((150 * (h_i h 212 x1.toNatClampNeg)) + (h_i h 213 x1.toNatClampNeg)) : Int32).toNatClampNeg)] h158 (fun r169 h167 => Wf h167 ∧ ((r169 = 0 → vp_in x1 12 ∧ (vp_in x1 12 ∧ (AW (m_X12_goOn (d + 3) 0 0) 0 0 0 [(0, .ref 1), (1, .int x1)] [] (h_im h167 213 x1.toNatClampNeg ((h_i h167 213 x1.toNatClampNeg) + 1)) (kV K)))) ∧ (¬ r169 = 0 → K h167)))))) ∧ ((h_i h 228 (((150 * (h_i h 212 x1.toNatClampNeg)) + (h_i h 213 x1.toNatClampNeg)) : Int32).toNatClampNeg) = 2 → (¬ r160 = (-1) → (¬ (h_i h 228 (((150 * (h_i h 212 x1.toNatClampNeg)) + (h_i h 213 x1.toNatClampNeg)) : Int32).toNatClampNeg) = 2 → vp_in x1 12 ∧ (vp_in x1 12 ∧ (AW (m_X12_goOn (d + 3) 0 0) 0 0 0 [(0, .ref 1), (1, .int x1)] [] (h_im h158 213 x1.toNatClampNeg ((h_i h158 213 x1.toNatClampNeg) + 1)) (kV K)))) ∧ ((h_i h 228 (((150 * (h_i h 212 x1.toNatClampNeg)) + (h_i h 213 x1.toNatClampNeg)) : Int32).toNatClampNeg) = 2 → vp_in ((150 * (h_i h 212 x1.toNatClampNeg)) + (h_i h 213 x1.toNatClampNeg)) 1800 ∧ (Ci (m_X12_comes (d + 1) 0 0) [.ref 1, .int x1, .int (h_i h158 230 (((150 * (h_i h 212 x1.toNatClampNeg)) + (h_i h 213 x1.toNatClampNeg)) : Int32).toNatClampNeg)] h158 (fun r180 h178 => Wf h178 ∧ ((r180 = 0 → vp_in x1 12 ∧ (vp_in x1 12 ∧ (AW (m_X12_goOn (d + 3) 0 0) 0 0 0 [(0, .ref 1), (1, .int x1)] [] (h_im h178 213 x1.toNatClampNeg ((h_i h178 213 x1.toNatClampNeg) + 1)) (kV K)))) ∧ (¬ r180 = 0 → K h178)))))) ∧ (r160 = (-1) → vp_in x1 12 ∧ (Cv (m_X12_miss (d + 0) 0 0) [.ref 1, .int (h_i h158 216 x1.toNatClampNeg), .int 2] h158 (fun h185 => Wf h185 ∧ (vp_in x1 12 ∧ (vp_in x1 12 ∧ (vp_in x1 12 ∧ (vp_in x1 12 ∧ (AW (m_X12_goOn (d + 3) 0 0) 0 0 0 [(0, .ref 1), (1, .int x1)] [] (h_im (h_im h185 216 x1.toNatClampNeg ((h_i h185 216 x1.toNatClampNeg) + 1)) 213 x1.toNatClampNeg ((h_i h185 213 x1.toNatClampNeg) + 1)) (kV K))))))))))) ∧ (¬ r160 ≤ 0 → vp_in ((150 * (h_i h 212 x1.toNatClampNeg)) + (h_i h 213 x1.toNatClampNeg)) 1800 ∧ (Cv (m_X12_setOut (d + 1) 0 0) [.ref 1, .int x1, .int (h_i h158 229 (((150 * (h_i h 212 x1.toNatClampNeg)) + (h_i h 213 x1.toNatClampNeg)) : Int32).toNatClampNeg)] h158 (fun h193 => Wf h193 ∧ (K h193))))))))))))))) ∧ ((h_i h 213 x1.toNatClampNeg) = (h_i h 227 ((h_i h 212 x1.toNatClampNeg) : Int32).toNatClampNeg) → Cv (m_X12_goHome (d + 2) 0 0) [.ref 1, .int x1] h (fun h196 => Wf h196 ∧ (K h196))))))))) : AW (m_X12_goOn (d + 3) 0 0) 0 0 0 [(0, .ref 1), (1, .int x1)] [] h (kV K) := by
  refine aw_aload_n (i := 0) rfl d_X12_goOn_0 0 rfl ?_
  refine aw_getr (k0 := 12) kc_12 (ws_1 w) (Nat.le_of_ble_eq_true rfl) tw_1754 d_X12_goOn_1 rfl (wr_1_12 w) ?_
  refine aw_iload_n (i := 1) rfl d_X12_goOn_4 1 rfl ?_
  obtain ⟨b100, k⟩ := k
  refine aw_iald (ws_208 w) b100 d_X12_goOn_5 ?_
  refine aw_iconst (v := 1) d_X12_goOn_6 ic_1 ?_
  refine aw_icmp_ne (tgt := 210) d_X12_goOn_7 rfl (fun c101 => ?_) (fun c101 => ?_)
  · have k := k.1 c101
    exact aw_vret rfl d_X12_goOn_210 ⟨Nat.le_refl _, Nat.le_refl _⟩ ⟨rfl, k⟩
  · have k := k.2 c101
    refine aw_aload_n (i := 0) rfl d_X12_goOn_10 0 rfl ?_
    refine aw_getr (k0 := 17) kc_12 (ws_1 w) (Nat.le_of_ble_eq_true rfl) tw_1759 d_X12_goOn_11 rfl (wr_1_17 w) ?_
    refine aw_iload_n (i := 1) rfl d_X12_goOn_14 1 rfl ?_
    obtain ⟨b102, k⟩ := k
    refine aw_iald (ws_213 w) b102 d_X12_goOn_15 ?_
    refine aw_aload_n (i := 0) rfl d_X12_goOn_16 0 rfl ?_
    refine aw_getr (k0 := 38) kc_12 (ws_1 w) (Nat.le_of_ble_eq_true rfl) tw_1780 d_X12_goOn_17 rfl (wr_1_38 w) ?_
    refine aw_aload_n (i := 0) rfl d_X12_goOn_20 0 rfl ?_
    refine aw_getr (k0 := 16) kc_12 (ws_1 w) (Nat.le_of_ble_eq_true rfl) tw_1758 d_X12_goOn_21 rfl (wr_1_16 w) ?_
    refine aw_iload_n (i := 1) rfl d_X12_goOn_24 1 rfl ?_
    obtain ⟨b103, k⟩ := k
    refine aw_iald (ws_212 w) b103 d_X12_goOn_25 ?_
    obtain ⟨b104, k⟩ := k
    refine aw_iald (ws_227 w) b104 d_X12_goOn_26 ?_
    refine aw_icmp_ne (tgt := 36) d_X12_goOn_27 rfl (fun c105 => ?_) (fun c105 => ?_)
    · have k := k.1 c105
      refine aw_sipush (v := 150) d_X12_goOn_36 is_150 ?_
      refine aw_aload_n (i := 0) rfl d_X12_goOn_39 0 rfl ?_
      refine aw_getr (k0 := 16) kc_12 (ws_1 w) (Nat.le_of_ble_eq_true rfl) tw_1758 d_X12_goOn_40 rfl (wr_1_16 w) ?_
      refine aw_iload_n (i := 1) rfl d_X12_goOn_43 1 rfl ?_
      obtain ⟨b106, k⟩ := k
      refine aw_iald (ws_212 w) b106 d_X12_goOn_44 ?_
      refine aw_imul d_X12_goOn_45 ?_
      refine aw_aload_n (i := 0) rfl d_X12_goOn_46 0 rfl ?_
      refine aw_getr (k0 := 17) kc_12 (ws_1 w) (Nat.le_of_ble_eq_true rfl) tw_1759 d_X12_goOn_47 rfl (wr_1_17 w) ?_
      refine aw_iload_n (i := 1) rfl d_X12_goOn_50 1 rfl ?_
      obtain ⟨b107, k⟩ := k
      refine aw_iald (ws_213 w) b107 d_X12_goOn_51 ?_
      refine aw_iadd d_X12_goOn_52 ?_
      refine aw_istore_n (i := 2) rfl [(0, .ref 1), (1, .int x1), (2, .int ((150 * (h_i h 212 x1.toNatClampNeg)) + (h_i h 213 x1.toNatClampNeg)))] d_X12_goOn_53 (Nat.le_of_ble_eq_true rfl) rfl rfl ?_
      refine aw_aload_n (i := 0) rfl d_X12_goOn_54 0 rfl ?_
      refine aw_getr (k0 := 39) kc_12 (ws_1 w) (Nat.le_of_ble_eq_true rfl) tw_1781 d_X12_goOn_55 rfl (wr_1_39 w) ?_
      refine aw_iload_n (i := 2) rfl d_X12_goOn_58 2 rfl ?_
      obtain ⟨b108, k⟩ := k
      refine aw_iald (ws_228 w) b108 d_X12_goOn_59 ?_
      refine aw_istore_n (i := 3) rfl [(0, .ref 1), (1, .int x1), (2, .int ((150 * (h_i h 212 x1.toNatClampNeg)) + (h_i h 213 x1.toNatClampNeg))), (3, .int (h_i h 228 (((150 * (h_i h 212 x1.toNatClampNeg)) + (h_i h 213 x1.toNatClampNeg)) : Int32).toNatClampNeg))] d_X12_goOn_60 (Nat.le_of_ble_eq_true rfl) rfl rfl ?_
      refine aw_aload_n (i := 0) rfl d_X12_goOn_61 0 rfl ?_
      refine aw_getr (k0 := 15) kc_12 (ws_1 w) (Nat.le_of_ble_eq_true rfl) tw_1757 d_X12_goOn_62 rfl (wr_1_15 w) ?_
      refine aw_iload_n (i := 1) rfl d_X12_goOn_65 1 rfl ?_
      refine aw_iconst (v := (-1)) d_X12_goOn_66 ic_m1 ?_
      obtain ⟨b109, k⟩ := k
      refine aw_iast (ws_211 w) b109 d_X12_goOn_67 ?_
      refine aw_iload_n (i := 3) rfl d_X12_goOn_68 3 rfl ?_
      refine aw_if_eq (tgt := 77) d_X12_goOn_69 rfl (fun c110 => ?_) (fun c110 => ?_)
      · have k := k.1 c110
        refine aw_aload_n (i := 0) rfl d_X12_goOn_77 0 rfl ?_
        refine aw_aload_n (i := 0) rfl d_X12_goOn_78 0 rfl ?_
        refine aw_getr (k0 := 13) kc_12 (ws_1 w) (Nat.le_of_ble_eq_true rfl) tw_1755 d_X12_goOn_79 rfl (wr_1_13 w) ?_
        refine aw_iload_n (i := 1) rfl d_X12_goOn_82 1 rfl ?_
        obtain ⟨b111, k⟩ := k
        refine aw_iald (ws_209 w) b111 d_X12_goOn_83 ?_
        refine aw_vi (v2 := (h_i h 209 x1.toNatClampNeg)) (rfl) ?_
        refine aw_aload_n (i := 0) rfl d_X12_goOn_84 0 rfl ?_
        refine aw_getr (k0 := 40) kc_12 (ws_1 w) (Nat.le_of_ble_eq_true rfl) tw_1782 d_X12_goOn_85 rfl (wr_1_40 w) ?_
        refine aw_iload_n (i := 2) rfl d_X12_goOn_88 2 rfl ?_
        obtain ⟨b112, k⟩ := k
        refine aw_iald (ws_229 w) b112 d_X12_goOn_89 ?_
        refine aw_vi (v2 := (h_i h 229 (((150 * (h_i h 212 x1.toNatClampNeg)) + (h_i h 213 x1.toNatClampNeg)) : Int32).toNatClampNeg)) (rfl) ?_
        refine aw_Vi 1 [.int (h_i h 209 x1.toNatClampNeg), .int (h_i h 229 (((150 * (h_i h 212 x1.toNatClampNeg)) + (h_i h 213 x1.toNatClampNeg)) : Int32).toNatClampNeg)] [] d_X12_goOn_90 (cV_X12_walkOf (d + 0) 0 0) kc_12 (ws_1 w) tw_2150 rfl (rr0 (Nat.le_of_ble_eq_true rfl) (Nat.le_of_ble_eq_true rfl)) (Nat.le_of_ble_eq_true rfl) xs0 k (fun r115 h113 kk => ?_)
        obtain ⟨w114, k⟩ := kk
        refine aw_istore [(0, .ref 1), (1, .int x1), (2, .int ((150 * (h_i h 212 x1.toNatClampNeg)) + (h_i h 213 x1.toNatClampNeg))), (3, .int (h_i h 228 (((150 * (h_i h 212 x1.toNatClampNeg)) + (h_i h 213 x1.toNatClampNeg)) : Int32).toNatClampNeg)), (4, .int r115)] d_X12_goOn_93 (Nat.le_of_ble_eq_true rfl) rfl rfl ?_
        refine aw_iload d_X12_goOn_95 4 rfl ?_
        refine aw_if_le (tgt := 112) d_X12_goOn_97 rfl (fun c116 => ?_) (fun c116 => ?_)
        · have k := k.1 c116
          refine aw_iload_n (i := 3) rfl d_X12_goOn_112 3 rfl ?_
          refine aw_iconst (v := 2) d_X12_goOn_113 ic_2 ?_
          refine aw_icmp_ne (tgt := 147) d_X12_goOn_114 rfl (fun c117 => ?_) (fun c117 => ?_)
          · have k := k.1 c117
            refine aw_iload_n (i := 3) rfl d_X12_goOn_147 3 rfl ?_
            refine aw_iconst (v := 2) d_X12_goOn_148 ic_2 ?_
            refine aw_icmp_ne (tgt := 167) d_X12_goOn_149 rfl (fun c118 => ?_) (fun c118 => ?_)
            · have k := k.1 c118
              refine aw_goto (tgt := 197) d_X12_goOn_167 rfl ?_
              refine aw_aload_n (i := 0) rfl d_X12_goOn_197 0 rfl ?_
              refine aw_getr (k0 := 17) kc_12 (ws_1 w114) (Nat.le_of_ble_eq_true rfl) tw_1759 d_X12_goOn_198 rfl (wr_1_17 w114) ?_
              refine aw_iload_n (i := 1) rfl d_X12_goOn_201 1 rfl ?_
              refine aw_dup2 d_X12_goOn_202 ⟨rfl, rfl⟩ ?_
              obtain ⟨b119, k⟩ := k
              refine aw_iald (ws_213 w114) b119 d_X12_goOn_203 ?_
              refine aw_iconst (v := 1) d_X12_goOn_204 ic_1 ?_
              refine aw_iadd d_X12_goOn_205 ?_
              obtain ⟨b120, k⟩ := k
              refine aw_iast (ws_213 w114) b120 d_X12_goOn_206 ?_
              refine aw_goto (tgt := 0) d_X12_goOn_207 rfl ?_
              exact aw_lvp [0, 1] [(0, .ref 1), (1, .int x1)] rfl k
            · have k := k.2 c118
              refine aw_aload_n (i := 0) rfl d_X12_goOn_152 0 rfl ?_
              refine aw_iload_n (i := 1) rfl d_X12_goOn_153 1 rfl ?_
              refine aw_aload_n (i := 0) rfl d_X12_goOn_154 0 rfl ?_
              refine aw_getr (k0 := 41) kc_12 (ws_1 w114) (Nat.le_of_ble_eq_true rfl) tw_1783 d_X12_goOn_155 rfl (wr_1_41 w114) ?_
              refine aw_iload_n (i := 2) rfl d_X12_goOn_158 2 rfl ?_
              obtain ⟨b121, k⟩ := k
              refine aw_iald (ws_230 w114) b121 d_X12_goOn_159 ?_
              refine aw_Vi 1 [.int x1, .int (h_i h113 230 (((150 * (h_i h 212 x1.toNatClampNeg)) + (h_i h 213 x1.toNatClampNeg)) : Int32).toNatClampNeg)] [] d_X12_goOn_160 (cV_X12_comes (d + 1) 0 0) kc_12 (ws_1 w114) tw_2356 rfl (rr0 (Nat.le_of_ble_eq_true rfl) (Nat.le_of_ble_eq_true rfl)) (Nat.le_of_ble_eq_true rfl) xs0 k (fun r124 h122 kk => ?_)
              obtain ⟨w123, k⟩ := kk
              refine aw_if_eq (tgt := 167) d_X12_goOn_163 rfl (fun c125 => ?_) (fun c125 => ?_)
              · have k := k.1 c125
                refine aw_goto (tgt := 197) d_X12_goOn_167 rfl ?_
                refine aw_aload_n (i := 0) rfl d_X12_goOn_197 0 rfl ?_
                refine aw_getr (k0 := 17) kc_12 (ws_1 w123) (Nat.le_of_ble_eq_true rfl) tw_1759 d_X12_goOn_198 rfl (wr_1_17 w123) ?_
                refine aw_iload_n (i := 1) rfl d_X12_goOn_201 1 rfl ?_
                refine aw_dup2 d_X12_goOn_202 ⟨rfl, rfl⟩ ?_
                obtain ⟨b126, k⟩ := k
                refine aw_iald (ws_213 w123) b126 d_X12_goOn_203 ?_
                refine aw_iconst (v := 1) d_X12_goOn_204 ic_1 ?_
                refine aw_iadd d_X12_goOn_205 ?_
                obtain ⟨b127, k⟩ := k
                refine aw_iast (ws_213 w123) b127 d_X12_goOn_206 ?_
                refine aw_goto (tgt := 0) d_X12_goOn_207 rfl ?_
                exact aw_lvp [0, 1] [(0, .ref 1), (1, .int x1)] rfl k
              · have k := k.2 c125
                exact aw_vret rfl d_X12_goOn_166 ⟨Nat.le_refl _, Nat.le_refl _⟩ ⟨rfl, k⟩
          · have k := k.2 c117
            refine aw_iload d_X12_goOn_117 4 rfl ?_
            refine aw_iconst (v := (-1)) d_X12_goOn_119 ic_m1 ?_
            refine aw_icmp_ne (tgt := 147) d_X12_goOn_120 rfl (fun c128 => ?_) (fun c128 => ?_)
            · have k := k.1 c128
              refine aw_iload_n (i := 3) rfl d_X12_goOn_147 3 rfl ?_
              refine aw_iconst (v := 2) d_X12_goOn_148 ic_2 ?_
              refine aw_icmp_ne (tgt := 167) d_X12_goOn_149 rfl (fun c129 => ?_) (fun c129 => ?_)
              · have k := k.1 c129
                refine aw_goto (tgt := 197) d_X12_goOn_167 rfl ?_
                refine aw_aload_n (i := 0) rfl d_X12_goOn_197 0 rfl ?_
                refine aw_getr (k0 := 17) kc_12 (ws_1 w114) (Nat.le_of_ble_eq_true rfl) tw_1759 d_X12_goOn_198 rfl (wr_1_17 w114) ?_
                refine aw_iload_n (i := 1) rfl d_X12_goOn_201 1 rfl ?_
                refine aw_dup2 d_X12_goOn_202 ⟨rfl, rfl⟩ ?_
                obtain ⟨b130, k⟩ := k
                refine aw_iald (ws_213 w114) b130 d_X12_goOn_203 ?_
                refine aw_iconst (v := 1) d_X12_goOn_204 ic_1 ?_
                refine aw_iadd d_X12_goOn_205 ?_
                obtain ⟨b131, k⟩ := k
                refine aw_iast (ws_213 w114) b131 d_X12_goOn_206 ?_
                refine aw_goto (tgt := 0) d_X12_goOn_207 rfl ?_
                exact aw_lvp [0, 1] [(0, .ref 1), (1, .int x1)] rfl k
              · have k := k.2 c129
                refine aw_aload_n (i := 0) rfl d_X12_goOn_152 0 rfl ?_
                refine aw_iload_n (i := 1) rfl d_X12_goOn_153 1 rfl ?_
                refine aw_aload_n (i := 0) rfl d_X12_goOn_154 0 rfl ?_
                refine aw_getr (k0 := 41) kc_12 (ws_1 w114) (Nat.le_of_ble_eq_true rfl) tw_1783 d_X12_goOn_155 rfl (wr_1_41 w114) ?_
                refine aw_iload_n (i := 2) rfl d_X12_goOn_158 2 rfl ?_
                obtain ⟨b132, k⟩ := k
                refine aw_iald (ws_230 w114) b132 d_X12_goOn_159 ?_
                refine aw_Vi 1 [.int x1, .int (h_i h113 230 (((150 * (h_i h 212 x1.toNatClampNeg)) + (h_i h 213 x1.toNatClampNeg)) : Int32).toNatClampNeg)] [] d_X12_goOn_160 (cV_X12_comes (d + 1) 0 0) kc_12 (ws_1 w114) tw_2356 rfl (rr0 (Nat.le_of_ble_eq_true rfl) (Nat.le_of_ble_eq_true rfl)) (Nat.le_of_ble_eq_true rfl) xs0 k (fun r135 h133 kk => ?_)
                obtain ⟨w134, k⟩ := kk
                refine aw_if_eq (tgt := 167) d_X12_goOn_163 rfl (fun c136 => ?_) (fun c136 => ?_)
                · have k := k.1 c136
                  refine aw_goto (tgt := 197) d_X12_goOn_167 rfl ?_
                  refine aw_aload_n (i := 0) rfl d_X12_goOn_197 0 rfl ?_
                  refine aw_getr (k0 := 17) kc_12 (ws_1 w134) (Nat.le_of_ble_eq_true rfl) tw_1759 d_X12_goOn_198 rfl (wr_1_17 w134) ?_
                  refine aw_iload_n (i := 1) rfl d_X12_goOn_201 1 rfl ?_
                  refine aw_dup2 d_X12_goOn_202 ⟨rfl, rfl⟩ ?_
                  obtain ⟨b137, k⟩ := k
                  refine aw_iald (ws_213 w134) b137 d_X12_goOn_203 ?_
                  refine aw_iconst (v := 1) d_X12_goOn_204 ic_1 ?_
                  refine aw_iadd d_X12_goOn_205 ?_
                  obtain ⟨b138, k⟩ := k
                  refine aw_iast (ws_213 w134) b138 d_X12_goOn_206 ?_
                  refine aw_goto (tgt := 0) d_X12_goOn_207 rfl ?_
                  exact aw_lvp [0, 1] [(0, .ref 1), (1, .int x1)] rfl k
                · have k := k.2 c136
                  exact aw_vret rfl d_X12_goOn_166 ⟨Nat.le_refl _, Nat.le_refl _⟩ ⟨rfl, k⟩
            · have k := k.2 c128
              refine aw_aload_n (i := 0) rfl d_X12_goOn_123 0 rfl ?_
              refine aw_aload_n (i := 0) rfl d_X12_goOn_124 0 rfl ?_
              refine aw_getr (k0 := 20) kc_12 (ws_1 w114) (Nat.le_of_ble_eq_true rfl) tw_1762 d_X12_goOn_125 rfl (wr_1_20 w114) ?_
              refine aw_iload_n (i := 1) rfl d_X12_goOn_128 1 rfl ?_
              obtain ⟨b139, k⟩ := k
              refine aw_iald (ws_216 w114) b139 d_X12_goOn_129 ?_
              refine aw_iconst (v := 2) d_X12_goOn_130 ic_2 ?_
              refine aw_Vv 1 [.int (h_i h113 216 x1.toNatClampNeg), .int 2] [] d_X12_goOn_131 (cV_X12_miss (d + 0) 0 0) kc_12 (ws_1 w114) tw_2352 rfl (rr0 (Nat.le_of_ble_eq_true rfl) (Nat.le_of_ble_eq_true rfl)) (Nat.le_of_ble_eq_true rfl) xs0 k (fun h140 kk => ?_)
              obtain ⟨w141, k⟩ := kk
              refine aw_aload_n (i := 0) rfl d_X12_goOn_134 0 rfl ?_
              refine aw_getr (k0 := 20) kc_12 (ws_1 w141) (Nat.le_of_ble_eq_true rfl) tw_1762 d_X12_goOn_135 rfl (wr_1_20 w141) ?_
              refine aw_iload_n (i := 1) rfl d_X12_goOn_138 1 rfl ?_
              refine aw_dup2 d_X12_goOn_139 ⟨rfl, rfl⟩ ?_
              obtain ⟨b143, k⟩ := k
              refine aw_iald (ws_216 w141) b143 d_X12_goOn_140 ?_
              refine aw_iconst (v := 1) d_X12_goOn_141 ic_1 ?_
              refine aw_iadd d_X12_goOn_142 ?_
              obtain ⟨b144, k⟩ := k
              refine aw_iast (ws_216 w141) b144 d_X12_goOn_143 ?_
              refine aw_goto (tgt := 167) d_X12_goOn_144 rfl ?_
              refine aw_goto (tgt := 197) d_X12_goOn_167 rfl ?_
              refine aw_aload_n (i := 0) rfl d_X12_goOn_197 0 rfl ?_
              refine aw_getr (k0 := 17) kc_12 (ws_1 w141) (Nat.le_of_ble_eq_true rfl) tw_1759 d_X12_goOn_198 rfl (wr_1_17 w141) ?_
              refine aw_iload_n (i := 1) rfl d_X12_goOn_201 1 rfl ?_
              refine aw_dup2 d_X12_goOn_202 ⟨rfl, rfl⟩ ?_
              obtain ⟨b145, k⟩ := k
              refine aw_iald (ws_213 w141) b145 d_X12_goOn_203 ?_
              refine aw_vi (v2 := (h_i h140 213 x1.toNatClampNeg)) (rfl) ?_
              refine aw_iconst (v := 1) d_X12_goOn_204 ic_1 ?_
              refine aw_iadd d_X12_goOn_205 ?_
              obtain ⟨b146, k⟩ := k
              refine aw_iast (ws_213 w141) b146 d_X12_goOn_206 ?_
              refine aw_goto (tgt := 0) d_X12_goOn_207 rfl ?_
              exact aw_lvp [0, 1] [(0, .ref 1), (1, .int x1)] rfl k
        · have k := k.2 c116
          refine aw_aload_n (i := 0) rfl d_X12_goOn_100 0 rfl ?_
          refine aw_iload_n (i := 1) rfl d_X12_goOn_101 1 rfl ?_
          refine aw_aload_n (i := 0) rfl d_X12_goOn_102 0 rfl ?_
          refine aw_getr (k0 := 40) kc_12 (ws_1 w114) (Nat.le_of_ble_eq_true rfl) tw_1782 d_X12_goOn_103 rfl (wr_1_40 w114) ?_
          refine aw_iload_n (i := 2) rfl d_X12_goOn_106 2 rfl ?_
          obtain ⟨b147, k⟩ := k
          refine aw_iald (ws_229 w114) b147 d_X12_goOn_107 ?_
          refine aw_Vv 1 [.int x1, .int (h_i h113 229 (((150 * (h_i h 212 x1.toNatClampNeg)) + (h_i h 213 x1.toNatClampNeg)) : Int32).toNatClampNeg)] [] d_X12_goOn_108 (cV_X12_setOut (d + 1) 0 0) kc_12 (ws_1 w114) tw_2348 rfl (rr0 (Nat.le_of_ble_eq_true rfl) (Nat.le_of_ble_eq_true rfl)) (Nat.le_of_ble_eq_true rfl) xs0 k (fun h148 kk => ?_)
          obtain ⟨w149, k⟩ := kk
          exact aw_vret rfl d_X12_goOn_111 ⟨Nat.le_refl _, Nat.le_refl _⟩ ⟨rfl, k⟩
      · have k := k.2 c110
        refine aw_iload_n (i := 3) rfl d_X12_goOn_72 3 rfl ?_
        refine aw_iconst (v := 2) d_X12_goOn_73 ic_2 ?_
        refine aw_icmp_ne (tgt := 170) d_X12_goOn_74 rfl (fun c151 => ?_) (fun c151 => ?_)
        · have k := k.1 c151
          refine aw_aload_n (i := 0) rfl d_X12_goOn_170 0 rfl ?_
          refine aw_getr (k0 := 15) kc_12 (ws_1 w) (Nat.le_of_ble_eq_true rfl) tw_1757 d_X12_goOn_171 rfl (wr_1_15 w) ?_
          refine aw_iload_n (i := 1) rfl d_X12_goOn_174 1 rfl ?_
          refine aw_aload_n (i := 0) rfl d_X12_goOn_175 0 rfl ?_
          refine aw_geti (k0 := 0) kc_12 (ws_1 w) (Nat.le_of_ble_eq_true rfl) tw_1742 d_X12_goOn_176 rfl ?_
          refine aw_vi (v2 := (h_i h 1 0)) (rfl) ?_
          refine aw_iload_n (i := 3) rfl d_X12_goOn_179 3 rfl ?_
          refine aw_iconst (v := 1) d_X12_goOn_180 ic_1 ?_
          refine aw_icmp_ne (tgt := 193) d_X12_goOn_181 rfl (fun c152 => ?_) (fun c152 => ?_)
          · have k := k.1 c152
            refine aw_iconst (v := 1) d_X12_goOn_193 ic_1 ?_
            refine aw_iadd d_X12_goOn_194 ?_
            obtain ⟨b153, k⟩ := k
            refine aw_iast (ws_211 w) b153 d_X12_goOn_195 ?_
            exact aw_vret rfl d_X12_goOn_196 ⟨Nat.le_refl _, Nat.le_refl _⟩ ⟨rfl, k⟩
          · have k := k.2 c152
            refine aw_aload_n (i := 0) rfl d_X12_goOn_184 0 rfl ?_
            refine aw_getr (k0 := 40) kc_12 (ws_1 w) (Nat.le_of_ble_eq_true rfl) tw_1782 d_X12_goOn_185 rfl (wr_1_40 w) ?_
            refine aw_iload_n (i := 2) rfl d_X12_goOn_188 2 rfl ?_
            obtain ⟨b154, k⟩ := k
            refine aw_iald (ws_229 w) b154 d_X12_goOn_189 ?_
            refine aw_vi (v2 := (h_i h 229 (((150 * (h_i h 212 x1.toNatClampNeg)) + (h_i h 213 x1.toNatClampNeg)) : Int32).toNatClampNeg)) (rfl) ?_
            refine aw_goto (tgt := 194) d_X12_goOn_190 rfl ?_
            refine aw_iadd d_X12_goOn_194 ?_
            obtain ⟨b155, k⟩ := k
            refine aw_iast (ws_211 w) b155 d_X12_goOn_195 ?_
            exact aw_vret rfl d_X12_goOn_196 ⟨Nat.le_refl _, Nat.le_refl _⟩ ⟨rfl, k⟩
        · have k := k.2 c151
          refine aw_aload_n (i := 0) rfl d_X12_goOn_77 0 rfl ?_
          refine aw_aload_n (i := 0) rfl d_X12_goOn_78 0 rfl ?_
          refine aw_getr (k0 := 13) kc_12 (ws_1 w) (Nat.le_of_ble_eq_true rfl) tw_1755 d_X12_goOn_79 rfl (wr_1_13 w) ?_
          refine aw_iload_n (i := 1) rfl d_X12_goOn_82 1 rfl ?_
          obtain ⟨b156, k⟩ := k
          refine aw_iald (ws_209 w) b156 d_X12_goOn_83 ?_
          refine aw_vi (v2 := (h_i h 209 x1.toNatClampNeg)) (rfl) ?_
          refine aw_aload_n (i := 0) rfl d_X12_goOn_84 0 rfl ?_
          refine aw_getr (k0 := 40) kc_12 (ws_1 w) (Nat.le_of_ble_eq_true rfl) tw_1782 d_X12_goOn_85 rfl (wr_1_40 w) ?_
          refine aw_iload_n (i := 2) rfl d_X12_goOn_88 2 rfl ?_
          obtain ⟨b157, k⟩ := k
          refine aw_iald (ws_229 w) b157 d_X12_goOn_89 ?_
          refine aw_vi (v2 := (h_i h 229 (((150 * (h_i h 212 x1.toNatClampNeg)) + (h_i h 213 x1.toNatClampNeg)) : Int32).toNatClampNeg)) (rfl) ?_
          refine aw_Vi 1 [.int (h_i h 209 x1.toNatClampNeg), .int (h_i h 229 (((150 * (h_i h 212 x1.toNatClampNeg)) + (h_i h 213 x1.toNatClampNeg)) : Int32).toNatClampNeg)] [] d_X12_goOn_90 (cV_X12_walkOf (d + 0) 0 0) kc_12 (ws_1 w) tw_2150 rfl (rr0 (Nat.le_of_ble_eq_true rfl) (Nat.le_of_ble_eq_true rfl)) (Nat.le_of_ble_eq_true rfl) xs0 k (fun r160 h158 kk => ?_)
          obtain ⟨w159, k⟩ := kk
          refine aw_istore [(0, .ref 1), (1, .int x1), (2, .int ((150 * (h_i h 212 x1.toNatClampNeg)) + (h_i h 213 x1.toNatClampNeg))), (3, .int (h_i h 228 (((150 * (h_i h 212 x1.toNatClampNeg)) + (h_i h 213 x1.toNatClampNeg)) : Int32).toNatClampNeg)), (4, .int r160)] d_X12_goOn_93 (Nat.le_of_ble_eq_true rfl) rfl rfl ?_
          refine aw_iload d_X12_goOn_95 4 rfl ?_
          refine aw_if_le (tgt := 112) d_X12_goOn_97 rfl (fun c161 => ?_) (fun c161 => ?_)
          · have k := k.1 c161
            refine aw_iload_n (i := 3) rfl d_X12_goOn_112 3 rfl ?_
            refine aw_iconst (v := 2) d_X12_goOn_113 ic_2 ?_
            refine aw_icmp_ne (tgt := 147) d_X12_goOn_114 rfl (fun c162 => ?_) (fun c162 => ?_)
            · have k := k.1 c162
              refine aw_iload_n (i := 3) rfl d_X12_goOn_147 3 rfl ?_
              refine aw_iconst (v := 2) d_X12_goOn_148 ic_2 ?_
              refine aw_icmp_ne (tgt := 167) d_X12_goOn_149 rfl (fun c163 => ?_) (fun c163 => ?_)
              · have k := k.1 c163
                refine aw_goto (tgt := 197) d_X12_goOn_167 rfl ?_
                refine aw_aload_n (i := 0) rfl d_X12_goOn_197 0 rfl ?_
                refine aw_getr (k0 := 17) kc_12 (ws_1 w159) (Nat.le_of_ble_eq_true rfl) tw_1759 d_X12_goOn_198 rfl (wr_1_17 w159) ?_
                refine aw_iload_n (i := 1) rfl d_X12_goOn_201 1 rfl ?_
                refine aw_dup2 d_X12_goOn_202 ⟨rfl, rfl⟩ ?_
                obtain ⟨b164, k⟩ := k
                refine aw_iald (ws_213 w159) b164 d_X12_goOn_203 ?_
                refine aw_iconst (v := 1) d_X12_goOn_204 ic_1 ?_
                refine aw_iadd d_X12_goOn_205 ?_
                obtain ⟨b165, k⟩ := k
                refine aw_iast (ws_213 w159) b165 d_X12_goOn_206 ?_
                refine aw_goto (tgt := 0) d_X12_goOn_207 rfl ?_
                exact aw_lvp [0, 1] [(0, .ref 1), (1, .int x1)] rfl k
              · have k := k.2 c163
                refine aw_aload_n (i := 0) rfl d_X12_goOn_152 0 rfl ?_
                refine aw_iload_n (i := 1) rfl d_X12_goOn_153 1 rfl ?_
                refine aw_aload_n (i := 0) rfl d_X12_goOn_154 0 rfl ?_
                refine aw_getr (k0 := 41) kc_12 (ws_1 w159) (Nat.le_of_ble_eq_true rfl) tw_1783 d_X12_goOn_155 rfl (wr_1_41 w159) ?_
                refine aw_iload_n (i := 2) rfl d_X12_goOn_158 2 rfl ?_
                obtain ⟨b166, k⟩ := k
                refine aw_iald (ws_230 w159) b166 d_X12_goOn_159 ?_
                refine aw_Vi 1 [.int x1, .int (h_i h158 230 (((150 * (h_i h 212 x1.toNatClampNeg)) + (h_i h 213 x1.toNatClampNeg)) : Int32).toNatClampNeg)] [] d_X12_goOn_160 (cV_X12_comes (d + 1) 0 0) kc_12 (ws_1 w159) tw_2356 rfl (rr0 (Nat.le_of_ble_eq_true rfl) (Nat.le_of_ble_eq_true rfl)) (Nat.le_of_ble_eq_true rfl) xs0 k (fun r169 h167 kk => ?_)
                obtain ⟨w168, k⟩ := kk
                refine aw_if_eq (tgt := 167) d_X12_goOn_163 rfl (fun c170 => ?_) (fun c170 => ?_)
                · have k := k.1 c170
                  refine aw_goto (tgt := 197) d_X12_goOn_167 rfl ?_
                  refine aw_aload_n (i := 0) rfl d_X12_goOn_197 0 rfl ?_
                  refine aw_getr (k0 := 17) kc_12 (ws_1 w168) (Nat.le_of_ble_eq_true rfl) tw_1759 d_X12_goOn_198 rfl (wr_1_17 w168) ?_
                  refine aw_iload_n (i := 1) rfl d_X12_goOn_201 1 rfl ?_
                  refine aw_dup2 d_X12_goOn_202 ⟨rfl, rfl⟩ ?_
                  obtain ⟨b171, k⟩ := k
                  refine aw_iald (ws_213 w168) b171 d_X12_goOn_203 ?_
                  refine aw_iconst (v := 1) d_X12_goOn_204 ic_1 ?_
                  refine aw_iadd d_X12_goOn_205 ?_
                  obtain ⟨b172, k⟩ := k
                  refine aw_iast (ws_213 w168) b172 d_X12_goOn_206 ?_
                  refine aw_goto (tgt := 0) d_X12_goOn_207 rfl ?_
                  exact aw_lvp [0, 1] [(0, .ref 1), (1, .int x1)] rfl k
                · have k := k.2 c170
                  exact aw_vret rfl d_X12_goOn_166 ⟨Nat.le_refl _, Nat.le_refl _⟩ ⟨rfl, k⟩
            · have k := k.2 c162
              refine aw_iload d_X12_goOn_117 4 rfl ?_
              refine aw_iconst (v := (-1)) d_X12_goOn_119 ic_m1 ?_
              refine aw_icmp_ne (tgt := 147) d_X12_goOn_120 rfl (fun c173 => ?_) (fun c173 => ?_)
              · have k := k.1 c173
                refine aw_iload_n (i := 3) rfl d_X12_goOn_147 3 rfl ?_
                refine aw_iconst (v := 2) d_X12_goOn_148 ic_2 ?_
                refine aw_icmp_ne (tgt := 167) d_X12_goOn_149 rfl (fun c174 => ?_) (fun c174 => ?_)
                · have k := k.1 c174
                  refine aw_goto (tgt := 197) d_X12_goOn_167 rfl ?_
                  refine aw_aload_n (i := 0) rfl d_X12_goOn_197 0 rfl ?_
                  refine aw_getr (k0 := 17) kc_12 (ws_1 w159) (Nat.le_of_ble_eq_true rfl) tw_1759 d_X12_goOn_198 rfl (wr_1_17 w159) ?_
                  refine aw_iload_n (i := 1) rfl d_X12_goOn_201 1 rfl ?_
                  refine aw_dup2 d_X12_goOn_202 ⟨rfl, rfl⟩ ?_
                  obtain ⟨b175, k⟩ := k
                  refine aw_iald (ws_213 w159) b175 d_X12_goOn_203 ?_
                  refine aw_iconst (v := 1) d_X12_goOn_204 ic_1 ?_
                  refine aw_iadd d_X12_goOn_205 ?_
                  obtain ⟨b176, k⟩ := k
                  refine aw_iast (ws_213 w159) b176 d_X12_goOn_206 ?_
                  refine aw_goto (tgt := 0) d_X12_goOn_207 rfl ?_
                  exact aw_lvp [0, 1] [(0, .ref 1), (1, .int x1)] rfl k
                · have k := k.2 c174
                  refine aw_aload_n (i := 0) rfl d_X12_goOn_152 0 rfl ?_
                  refine aw_iload_n (i := 1) rfl d_X12_goOn_153 1 rfl ?_
                  refine aw_aload_n (i := 0) rfl d_X12_goOn_154 0 rfl ?_
                  refine aw_getr (k0 := 41) kc_12 (ws_1 w159) (Nat.le_of_ble_eq_true rfl) tw_1783 d_X12_goOn_155 rfl (wr_1_41 w159) ?_
                  refine aw_iload_n (i := 2) rfl d_X12_goOn_158 2 rfl ?_
                  obtain ⟨b177, k⟩ := k
                  refine aw_iald (ws_230 w159) b177 d_X12_goOn_159 ?_
                  refine aw_Vi 1 [.int x1, .int (h_i h158 230 (((150 * (h_i h 212 x1.toNatClampNeg)) + (h_i h 213 x1.toNatClampNeg)) : Int32).toNatClampNeg)] [] d_X12_goOn_160 (cV_X12_comes (d + 1) 0 0) kc_12 (ws_1 w159) tw_2356 rfl (rr0 (Nat.le_of_ble_eq_true rfl) (Nat.le_of_ble_eq_true rfl)) (Nat.le_of_ble_eq_true rfl) xs0 k (fun r180 h178 kk => ?_)
                  obtain ⟨w179, k⟩ := kk
                  refine aw_if_eq (tgt := 167) d_X12_goOn_163 rfl (fun c181 => ?_) (fun c181 => ?_)
                  · have k := k.1 c181
                    refine aw_goto (tgt := 197) d_X12_goOn_167 rfl ?_
                    refine aw_aload_n (i := 0) rfl d_X12_goOn_197 0 rfl ?_
                    refine aw_getr (k0 := 17) kc_12 (ws_1 w179) (Nat.le_of_ble_eq_true rfl) tw_1759 d_X12_goOn_198 rfl (wr_1_17 w179) ?_
                    refine aw_iload_n (i := 1) rfl d_X12_goOn_201 1 rfl ?_
                    refine aw_dup2 d_X12_goOn_202 ⟨rfl, rfl⟩ ?_
                    obtain ⟨b182, k⟩ := k
                    refine aw_iald (ws_213 w179) b182 d_X12_goOn_203 ?_
                    refine aw_iconst (v := 1) d_X12_goOn_204 ic_1 ?_
                    refine aw_iadd d_X12_goOn_205 ?_
                    obtain ⟨b183, k⟩ := k
                    refine aw_iast (ws_213 w179) b183 d_X12_goOn_206 ?_
                    refine aw_goto (tgt := 0) d_X12_goOn_207 rfl ?_
                    exact aw_lvp [0, 1] [(0, .ref 1), (1, .int x1)] rfl k
                  · have k := k.2 c181
                    exact aw_vret rfl d_X12_goOn_166 ⟨Nat.le_refl _, Nat.le_refl _⟩ ⟨rfl, k⟩
              · have k := k.2 c173
                refine aw_aload_n (i := 0) rfl d_X12_goOn_123 0 rfl ?_
                refine aw_aload_n (i := 0) rfl d_X12_goOn_124 0 rfl ?_
                refine aw_getr (k0 := 20) kc_12 (ws_1 w159) (Nat.le_of_ble_eq_true rfl) tw_1762 d_X12_goOn_125 rfl (wr_1_20 w159) ?_
                refine aw_iload_n (i := 1) rfl d_X12_goOn_128 1 rfl ?_
                obtain ⟨b184, k⟩ := k
                refine aw_iald (ws_216 w159) b184 d_X12_goOn_129 ?_
                refine aw_iconst (v := 2) d_X12_goOn_130 ic_2 ?_
                refine aw_Vv 1 [.int (h_i h158 216 x1.toNatClampNeg), .int 2] [] d_X12_goOn_131 (cV_X12_miss (d + 0) 0 0) kc_12 (ws_1 w159) tw_2352 rfl (rr0 (Nat.le_of_ble_eq_true rfl) (Nat.le_of_ble_eq_true rfl)) (Nat.le_of_ble_eq_true rfl) xs0 k (fun h185 kk => ?_)
                obtain ⟨w186, k⟩ := kk
                refine aw_aload_n (i := 0) rfl d_X12_goOn_134 0 rfl ?_
                refine aw_getr (k0 := 20) kc_12 (ws_1 w186) (Nat.le_of_ble_eq_true rfl) tw_1762 d_X12_goOn_135 rfl (wr_1_20 w186) ?_
                refine aw_iload_n (i := 1) rfl d_X12_goOn_138 1 rfl ?_
                refine aw_dup2 d_X12_goOn_139 ⟨rfl, rfl⟩ ?_
                obtain ⟨b188, k⟩ := k
                refine aw_iald (ws_216 w186) b188 d_X12_goOn_140 ?_
                refine aw_iconst (v := 1) d_X12_goOn_141 ic_1 ?_
                refine aw_iadd d_X12_goOn_142 ?_
                obtain ⟨b189, k⟩ := k
                refine aw_iast (ws_216 w186) b189 d_X12_goOn_143 ?_
                refine aw_goto (tgt := 167) d_X12_goOn_144 rfl ?_
                refine aw_goto (tgt := 197) d_X12_goOn_167 rfl ?_
                refine aw_aload_n (i := 0) rfl d_X12_goOn_197 0 rfl ?_
                refine aw_getr (k0 := 17) kc_12 (ws_1 w186) (Nat.le_of_ble_eq_true rfl) tw_1759 d_X12_goOn_198 rfl (wr_1_17 w186) ?_
                refine aw_iload_n (i := 1) rfl d_X12_goOn_201 1 rfl ?_
                refine aw_dup2 d_X12_goOn_202 ⟨rfl, rfl⟩ ?_
                obtain ⟨b190, k⟩ := k
                refine aw_iald (ws_213 w186) b190 d_X12_goOn_203 ?_
                refine aw_vi (v2 := (h_i h185 213 x1.toNatClampNeg)) (rfl) ?_
                refine aw_iconst (v := 1) d_X12_goOn_204 ic_1 ?_
                refine aw_iadd d_X12_goOn_205 ?_
                obtain ⟨b191, k⟩ := k
                refine aw_iast (ws_213 w186) b191 d_X12_goOn_206 ?_
                refine aw_goto (tgt := 0) d_X12_goOn_207 rfl ?_
                exact aw_lvp [0, 1] [(0, .ref 1), (1, .int x1)] rfl k
          · have k := k.2 c161
            refine aw_aload_n (i := 0) rfl d_X12_goOn_100 0 rfl ?_
            refine aw_iload_n (i := 1) rfl d_X12_goOn_101 1 rfl ?_
            refine aw_aload_n (i := 0) rfl d_X12_goOn_102 0 rfl ?_
            refine aw_getr (k0 := 40) kc_12 (ws_1 w159) (Nat.le_of_ble_eq_true rfl) tw_1782 d_X12_goOn_103 rfl (wr_1_40 w159) ?_
            refine aw_iload_n (i := 2) rfl d_X12_goOn_106 2 rfl ?_
            obtain ⟨b192, k⟩ := k
            refine aw_iald (ws_229 w159) b192 d_X12_goOn_107 ?_
            refine aw_Vv 1 [.int x1, .int (h_i h158 229 (((150 * (h_i h 212 x1.toNatClampNeg)) + (h_i h 213 x1.toNatClampNeg)) : Int32).toNatClampNeg)] [] d_X12_goOn_108 (cV_X12_setOut (d + 1) 0 0) kc_12 (ws_1 w159) tw_2348 rfl (rr0 (Nat.le_of_ble_eq_true rfl) (Nat.le_of_ble_eq_true rfl)) (Nat.le_of_ble_eq_true rfl) xs0 k (fun h193 kk => ?_)
            obtain ⟨w194, k⟩ := kk
            exact aw_vret rfl d_X12_goOn_111 ⟨Nat.le_refl _, Nat.le_refl _⟩ ⟨rfl, k⟩
    · have k := k.2 c105
      refine aw_aload_n (i := 0) rfl d_X12_goOn_30 0 rfl ?_
      refine aw_iload_n (i := 1) rfl d_X12_goOn_31 1 rfl ?_
      refine aw_Vv 1 [.int x1] [] d_X12_goOn_32 (cV_X12_goHome (d + 2) 0 0) kc_12 (ws_1 w) tw_2340 rfl (rr0 (Nat.le_of_ble_eq_true rfl) (Nat.le_of_ble_eq_true rfl)) (Nat.le_of_ble_eq_true rfl) xs0 k (fun h196 kk => ?_)
      obtain ⟨w197, k⟩ := kk
      exact aw_vret rfl d_X12_goOn_35 ⟨Nat.le_refl _, Nat.le_refl _⟩ ⟨rfl, k⟩
end
section
/-! the reference's men: what one man's methods leave of the others -/
def mrow (a : Nat) : Bool := Nat.beq a 208 || Nat.beq a 210 || Nat.beq a 212 || Nat.beq a 213 || Nat.beq a 216
/-- what the reference's calls with an account of their own may write -/
def wsR : List Nat := [1052, 1063, 1080, 1096, 203999, 208999, 209999, 210999, 211999, 212999, 213999, 214999, 215999, 216999, 217999, 218999, 219999, 220999, 236999, 237999, 238999, 239999, 240999, 241999, 242999, 243999, 244999, 248999, 254999, 255999, 256999, 257999, 258999, 259999, 260999, 261999, 262999, 263999]
def wsN : List Nat := 1007 :: 204999 :: 205999 :: 206999 :: 207999 :: wsR
def wsT : List Nat := 1000 :: wsR
/-- all else stays -/
def Sr (h h' : Hp_) : Prop := Fr wsR h h'
def Sn (h h' : Hp_) : Prop := Fr wsN h h'
theorem Sr.rf (h : Hp_) : Sr h h := Fr.rf _ h
theorem Sr.tr {h h1 h2 : Hp_} (a : Sr h h1) (b : Sr h1 h2) : Sr h h2 := Fr.tr a b
theorem Sr.im {h0 h : Hp_} {a k : Nat} {x : Int32} (s : Sr h0 h) (o : inw wsR a k = true) : Sr h0 (h_im h a k x) := Fr.im s o
theorem Sr.fr {ws : List Nat} {h h' : Hp_} (f : Fr ws h h') (o : wsub ws wsR = true) : Sr h h' := f.more o
theorem Sr.sn {h h' : Hp_} (s : Sr h h') : Sn h h' := Fr.more (a := wsR) (by decide +kernel) s
theorem Sr.st {h h' : Hp_} (s : Sr h h') : Fr wsT h h' := Fr.more (a := wsR) (by decide +kernel) s
def Mo (c : Nat) (h h' : Hp_) : Prop := (∀ a, mrow a = true → ∀ k, k ≠ c → h_i h' a k = h_i h a k) ∧ (∀ k, h_i h' 227 k = h_i h 227 k) ∧ (∀ k, h_i h' 228 k = h_i h 228 k) ∧ (∀ k, (k = 0 ∨ k = 7 ∨ k = 42) → h_i h' 1 k = h_i h 1 k) ∧ Sr h h'
theorem Mo.rf (c : Nat) (h : Hp_) : Mo c h h := ⟨fun _ _ _ _ => rfl, fun _ => rfl, fun _ => rfl, fun _ _ => rfl, Sr.rf _⟩
theorem Mo.tr {c : Nat} {h h1 h2 : Hp_} (a : Mo c h h1) (b : Mo c h1 h2) : Mo c h h2 := ⟨fun r hr k hk => (b.1 r hr k hk).trans (a.1 r hr k hk), fun k => (b.2.1 k).trans (a.2.1 k), fun k => (b.2.2.1 k).trans (a.2.2.1 k), fun k hk => (b.2.2.2.1 k hk).trans (a.2.2.2.1 k hk), a.2.2.2.2.tr b.2.2.2.2⟩
theorem Mo.b42 {c : Nat} {h h' : Hp_} (m : Mo c h h') : h_i h' 1 42 = h_i h 1 42 := m.2.2.2.1 42 (Or.inr (Or.inr rfl))
theorem Mo.sr {c : Nat} {h h' : Hp_} (m : Mo c h h') : Sr h h' := m.2.2.2.2
theorem Mo.im {c : Nat} {h0 h : Hp_} {b k : Nat} {x : Int32} (m : Mo c h0 h) (hb : (Nat.beq b 227 || Nat.beq b 228 || Nat.beq b 1 || !(inw wsR b 999)) = false) (hk : mrow b = true → k = c) : Mo c h0 (h_im h b k x) := by
  rw [Bool.or_eq_false_iff, Bool.or_eq_false_iff, Bool.or_eq_false_iff, Bool.not_eq_false'] at hb
  have n : ∀ {y : Nat}, Nat.beq b y = false → y ≠ b := fun {y} z e => by rw [e, Nat.beq_refl] at z; cases z
  refine ⟨fun r hr j hj => ?_, fun j => ?_, fun j => ?_, fun j hj => ?_, m.2.2.2.2.im (inw_row hb.2 k)⟩
  · rw [h_i_im]
    split
    · rename_i e
      exact absurd (e.2.trans (hk (by rw [← e.1]; exact hr))) hj
    · exact m.1 r hr j hj
  · rw [h_i_im, if_neg (fun e => n hb.1.1.1 e.1)]; exact m.2.1 j
  · rw [h_i_im, if_neg (fun e => n hb.1.1.2 e.1)]; exact m.2.2.1 j
  · rw [h_i_im, if_neg (fun e => n hb.1.2 e.1)]; exact m.2.2.2.1 j hj
theorem Mo.fr {ws : List Nat} {c : Nat} {h h' : Hp_} (f : Fr ws h h') (o : (off ws 208 && off ws 210 && off ws 212 && off ws 213 && off ws 216 && off ws 227 && off ws 228 && (!inw ws 1 0 && !inw ws 1 7 && !inw ws 1 42 && wsub ws wsR)) = true) : Mo c h h' := by
  simp only [Bool.and_eq_true] at o
  obtain ⟨⟨⟨⟨⟨⟨⟨o1, o2⟩, o3⟩, o4⟩, o5⟩, o6⟩, o7⟩, ⟨⟨o8, o9⟩, o10⟩, o11⟩ := o
  rw [Bool.not_eq_true'] at o8 o9 o10
  refine ⟨fun r hr k _ => ?_, fun k => fr_i f o6 k, fun k => fr_i f o7 k, fun k hk => ?_, Sr.fr f o11⟩
  · unfold mrow at hr
    simp only [Bool.or_eq_true] at hr
    rcases hr with (((z | z) | z) | z) | z <;> have z := Nat.eq_of_beq_eq_true z <;> subst z
    · exact fr_i f o1 k
    · exact fr_i f o2 k
    · exact fr_i f o3 k
    · exact fr_i f o4 k
    · exact fr_i f o5 k
  · rcases hk with z | z | z <;> subst z
    · exact (f.2 1 0 o8).1
    · exact (f.2 1 7 o9).1
    · exact (f.2 1 42 o10).1
/-- the man's own: what he does, his beat, his step, his row -/
def So (c : Nat) (h h' : Hp_) : Prop := h_i h' 208 c = h_i h 208 c ∧ h_i h' 212 c = h_i h 212 c ∧ h_i h' 213 c = h_i h 213 c ∧ h_i h' 216 c = h_i h 216 c
theorem So.rf (c : Nat) (h : Hp_) : So c h h := ⟨rfl, rfl, rfl, rfl⟩
theorem So.tr {c : Nat} {h h1 h2 : Hp_} (a : So c h h1) (b : So c h1 h2) : So c h h2 := ⟨b.1.trans a.1, b.2.1.trans a.2.1, b.2.2.1.trans a.2.2.1, b.2.2.2.trans a.2.2.2⟩
theorem So.im {c : Nat} {h0 h : Hp_} {b k : Nat} {x : Int32} (m : So c h0 h) (hb : (Nat.beq b 208 || Nat.beq b 212 || Nat.beq b 213 || Nat.beq b 216) = false) : So c h0 (h_im h b k x) := by
  simp only [Bool.or_eq_false_iff] at hb
  have n : ∀ {y : Nat}, Nat.beq b y = false → y ≠ b := fun {y} z e => by rw [e, Nat.beq_refl] at z; cases z
  refine ⟨?_, ?_, ?_, ?_⟩
  · rw [h_i_im, if_neg (fun e => n hb.1.1.1 e.1)]; exact m.1
  · rw [h_i_im, if_neg (fun e => n hb.1.1.2 e.1)]; exact m.2.1
  · rw [h_i_im, if_neg (fun e => n hb.1.2 e.1)]; exact m.2.2.1
  · rw [h_i_im, if_neg (fun e => n hb.2 e.1)]; exact m.2.2.2
theorem So.fr {ws : List Nat} {c : Nat} {h h' : Hp_} (f : Fr ws h h') (o : (off ws 208 && off ws 212 && off ws 213 && off ws 216) = true) : So c h h' := by
  simp only [Bool.and_eq_true] at o
  exact ⟨fr_i f o.1.1.1 c, fr_i f o.1.1.2 c, fr_i f o.1.2 c, fr_i f o.2 c⟩
theorem im_ne {h : Hp_} {a b k j : Nat} {x : Int32} (n : b ≠ a) : h_i (h_im h a k x) b j = h_i h b j := by rw [h_i_im, if_neg (fun e => n e.1)]
theorem im_at {h : Hp_} {a k : Nat} {x : Int32} : h_i (h_im h a k x) a k = x := by rw [h_i_im, if_pos ⟨rfl, rfl⟩]
theorem tr_ (a : Nat) (e : tfa a = some rtop) {h : Hp_} (I : Iv h) (k : Nat) (x : Int32) (n : a ≠ 0) (j : jr a = false) : Iv (h_im h a k x) := I.im (by rw [tfa_tf e]; exact rtop_in _) (jw_jr n j _)
theorem i208 {h : Hp_} (I : Iv h) (k : Nat) (x : Int32) : Iv (h_im h 208 k x) := tr_ 208 (by decide +kernel) I k x (by decide) (by decide)
theorem i211 {h : Hp_} (I : Iv h) (k : Nat) (x : Int32) : Iv (h_im h 211 k x) := tr_ 211 (by decide +kernel) I k x (by decide) (by decide)
theorem i241 {h : Hp_} (I : Iv h) (k : Nat) (x : Int32) : Iv (h_im h 241 k x) := tr_ 241 (by decide +kernel) I k x (by decide) (by decide)
theorem i242 {h : Hp_} (I : Iv h) (k : Nat) (x : Int32) : Iv (h_im h 242 k x) := tr_ 242 (by decide +kernel) I k x (by decide) (by decide)
theorem i243 {h : Hp_} (I : Iv h) (k : Nat) (x : Int32) : Iv (h_im h 243 k x) := tr_ 243 (by decide +kernel) I k x (by decide) (by decide)
theorem i260 {h : Hp_} (I : Iv h) (k : Nat) (x : Int32) : Iv (h_im h 260 k x) := tr_ 260 (by decide +kernel) I k x (by decide) (by decide)
theorem i209 {h : Hp_} (I : Iv h) (k : Nat) {x : Int32} (b : rin x.toInt (-1, 15)) : Iv (h_im h 209 k x) := I.im (by rw [tfa_tf (show tfa 209 = some (-1, 15) by decide +kernel)]; exact b) (jw_jr (by decide) (by decide) _)
theorem i210 {h : Hp_} (I : Iv h) (k : Nat) {x : Int32} (b : rin x.toInt (-1, 15)) : Iv (h_im h 210 k x) := I.im (by rw [tfa_tf (show tfa 210 = some (-1, 15) by decide +kernel)]; exact b) (jw_jr (by decide) (by decide) _)
theorem i213 {h : Hp_} (I : Iv h) (k : Nat) {x : Int32} (b : rin x.toInt (-1, 150)) : Iv (h_im h 213 k x) := I.im (by rw [tfa_tf (show tfa 213 = some (-1, 150) by decide +kernel)]; exact b) (jw_jr (by decide) (by decide) _)
theorem i216 {h : Hp_} (I : Iv h) (k : Nat) {x : Int32} (b : rin x.toInt (0, 400)) : Iv (h_im h 216 k x) := I.im (by rw [tfa_tf (show tfa 216 = some (0, 400) by decide +kernel)]; exact b) (jw_jr (by decide) (by decide) _)
theorem m1_in : rin (-1 : Int32).toInt (-1, 15) := ⟨by decide, by decide⟩
theorem m1_st : rin (-1 : Int32).toInt (-1, 150) := ⟨by decide, by decide⟩
theorem b15 {x : Int32} (b : rin x.toInt (0, 15)) : rin x.toInt (-1, 15) := ⟨by have : 0 ≤ x.toInt := b.1; show (-1 : Int) ≤ _; omega, b.2⟩
theorem home_in {h : Hp_} (I : Iv h) (k : Nat) : rin (h_i h 206 k).toInt (0, 15) := dp_rg I 206 k (by decide +kernel)
theorem drawn_in {h : Hp_} (I : Iv h) (k : Nat) : rin (h_i h 218 k).toInt (0, 15) := dp_rg I 218 k (by decide +kernel)
theorem c_setOut (d : Nat) {h : Hp_} (I : Iv h) (x1 x2 : Int32) (b1 : rin x1.toInt (0, 11)) (b2 : rin x2.toInt (0, 15)) : Cv (m_X12_setOut (d + 1) 0 0) [.ref 1, .int x1, .int x2] h (fun h' => Iv h' ∧ Mo x1.toNatClampNeg h h' ∧ So x1.toNatClampNeg h h') := by
  have v1 := dp_in b1 (n := 12) (by decide) (by decide)
  refine t_X12_setOut d h I.1 x1 x2 _ ⟨v1, ?_⟩
  refine Ci.mono (c_walkOf d I _ x2 b2) (fun r h2 q => ?_)
  obtain ⟨I2, F2, _⟩ := q
  have M2 : Mo x1.toNatClampNeg h h2 := Mo.fr F2 (by decide +kernel)
  have S2 : So x1.toNatClampNeg h h2 := So.fr F2 (by decide +kernel)
  refine ⟨I2.1, fun _ => ⟨v1, v1, v1, i211 (i210 (i209 I2 _ m1_in) _ (b15 b2)) _ _, ((M2.im (by decide) (fun z => absurd z (by decide))).im (by decide) (fun _ => rfl)).im (by decide) (fun z => absurd z (by decide)), ((S2.im (by decide)).im (by decide)).im (by decide)⟩, fun _ => ⟨I2, M2, S2⟩⟩
/-- not on a beat; free only with no goal -/
def Jd (h : Hp_) (c : Nat) : Prop := ¬ h_i h 208 c = 1 ∧ (h_i h 208 c = 0 → h_i h 210 c = -1)
theorem c_free (d : Nat) {h : Hp_} (I : Iv h) (x1 : Int32) (b1 : rin x1.toInt (0, 11)) : Cv (m_X12_free (d + 0) 0 0) [.ref 1, .int x1] h (fun h' => Iv h' ∧ Mo x1.toNatClampNeg h h' ∧ h_i h' 208 x1.toNatClampNeg = 0 ∧ h_i h' 210 x1.toNatClampNeg = -1) := by
  have v1 := dp_in b1 (n := 12) (by decide) (by decide)
  have t1 : (1 : Int32).toInt = 1 := rfl
  have lp : ∀ (r : Nat) (x2 : Int32) (h2 : Hp_), 0 ≤ x2.toInt → 300 - x2.toInt ≤ r → Iv h2 → Mo x1.toNatClampNeg h h2 → h_i h2 208 x1.toNatClampNeg = 0 ∧ h_i h2 210 x1.toNatClampNeg = -1 → AW (m_X12_free (d + 0) 0 0) 0 0 42 [(0, .ref 1), (1, .int x1), (2, .int x2)] [] h2 (kV (fun h' => Iv h' ∧ Mo x1.toNatClampNeg h h' ∧ h_i h' 208 x1.toNatClampNeg = 0 ∧ h_i h' 210 x1.toNatClampNeg = -1)) := by
    intro r
    induction r with
    | zero =>
      intro x2 h2 p2 m2 I2 M2 e2
      have sm := I2.2.1 1 80
      rw [show tf 1 80 = (0, 300) by decide +kernel] at sm
      have s1 : (h_i h2 1 80).toInt ≤ 300 := sm.2
      refine t_X12_free_42 d h2 I2.1 x1 x2 _ ⟨fun _ => ⟨I2, M2, e2⟩, fun z => ?_⟩
      have z := q_nle z
      omega
    | succ r ih =>
      intro x2 h2 p2 m2 I2 M2 e2
      have sm := I2.2.1 1 80
      rw [show tf 1 80 = (0, 300) by decide +kernel] at sm
      have s1 : (h_i h2 1 80).toInt ≤ 300 := sm.2
      refine t_X12_free_42 d h2 I2.1 x1 x2 _ ⟨fun _ => ⟨I2, M2, e2⟩, fun z => ?_⟩
      have z := q_nle z
      have v2 : vp_in x2 300 := dp_in (lo := 0) (hi := 299) ⟨p2, by show _ ≤ (299 : Int); omega⟩ (by decide) (by decide)
      have ex : (x2 + 1).toInt = x2.toInt + 1 := tx_add (by rw [t1]; omega) (by rw [t1]; omega)
      have go := ih (x2 + 1) h2 (by omega) (by omega) I2 M2 e2
      exact ⟨v2, fun _ => go, fun _ => ⟨v2, fun _ => go, fun _ => ⟨v2, fun _ => go, fun _ => ⟨v2, ih (x2 + 1) _ (by omega) (by omega) (i260 I2 _ _) (M2.im (by decide) (fun y => absurd y (by decide))) ⟨by rw [im_ne (by decide)]; exact e2.1, by rw [im_ne (by decide)]; exact e2.2⟩⟩⟩⟩⟩
  refine t_X12_free d h I.1 x1 _ ⟨v1, v1, v1, v1, v1, v1, ?_⟩
  refine lp 300 0 _ (by decide) (by decide) (i213 (i211 (i210 (i209 (i208 I _ _) _ (b15 (home_in I _))) _ m1_in) _ _) _ m1_st) (((((Mo.rf _ _).im (by decide) (fun _ => rfl)).im (by decide) (fun y => absurd y (by decide))).im (by decide) (fun _ => rfl)).im (by decide) (fun y => absurd y (by decide)) |>.im (by decide) (fun _ => rfl)) ?_
  exact ⟨by rw [im_ne (by decide), im_ne (by decide), im_ne (by decide), im_ne (by decide), im_at], by rw [im_ne (by decide), im_ne (by decide), im_at]⟩
theorem c_goHome (d : Nat) {h : Hp_} (I : Iv h) (x1 : Int32) (b1 : rin x1.toInt (0, 11)) : Cv (m_X12_goHome (d + 2) 0 0) [.ref 1, .int x1] h (fun h' => Iv h' ∧ Mo x1.toNatClampNeg h h' ∧ Jd h' x1.toNatClampNeg) := by
  have v1 := dp_in b1 (n := 12) (by decide) (by decide)
  have I1 := i211 (i213 (i208 I x1.toNatClampNeg 2) x1.toNatClampNeg m1_st) x1.toNatClampNeg (-1)
  have M1 : Mo x1.toNatClampNeg h (h_im (h_im (h_im h 208 x1.toNatClampNeg 2) 213 x1.toNatClampNeg (-1)) 211 x1.toNatClampNeg (-1)) := (((Mo.rf _ _).im (by decide) (fun _ => rfl)).im (by decide) (fun _ => rfl)).im (by decide) (fun y => absurd y (by decide))
  have e1 : h_i (h_im (h_im (h_im h 208 x1.toNatClampNeg 2) 213 x1.toNatClampNeg (-1)) 211 x1.toNatClampNeg (-1)) 208 x1.toNatClampNeg = 2 := by rw [im_ne (by decide), im_ne (by decide), im_at]
  refine t_X12_goHome d h I.1 x1 _ ⟨v1, v1, v1, v1, v1, ?_⟩
  refine Ci.mono (c_walkOf d I1 _ _ (home_in I _)) (fun r h2 q => ?_)
  obtain ⟨I2, F2, _⟩ := q
  have M2 := M1.tr (Mo.fr (c := x1.toNatClampNeg) F2 (by decide +kernel))
  have S2 : So x1.toNatClampNeg _ h2 := So.fr F2 (by decide +kernel)
  have fr : Cv (m_X12_free (d + 0) 0 0) [.ref 1, .int x1] h2 (fun h' => Wf h' ∧ (Iv h' ∧ Mo x1.toNatClampNeg h h' ∧ Jd h' x1.toNatClampNeg)) := Cv.mono (c_free d I2 x1 b1) (fun h' q => ⟨q.1.1, q.1, M2.tr q.2.1, by rw [q.2.2.1]; decide, fun _ => q.2.2.2⟩)
  refine ⟨I2.1, fun _ => fr, fun _ => ⟨fun _ => ⟨v1, ?_⟩, fun _ => fr⟩⟩
  exact Cv.mono (c_setOut d I2 x1 _ b1 (home_in I2 _)) (fun h' q => ⟨q.1.1, q.1, M2.tr q.2.1, by rw [q.2.2.1, S2.1, e1]; decide, fun z => by rw [q.2.2.1, S2.1, e1] at z; exact absurd z (by decide)⟩)
theorem c_stay (d : Nat) {h : Hp_} (I : Iv h) (x1 : Int32) (b1 : rin x1.toInt (0, 11)) (n1 : ¬ h_i h 208 x1.toNatClampNeg = 1 ∧ ¬ h_i h 208 x1.toNatClampNeg = 0) : Cv (m_X12_stay (d + 3) 0 0) [.ref 1, .int x1] h (fun h' => Iv h' ∧ Mo x1.toNatClampNeg h h' ∧ Jd h' x1.toNatClampNeg) := by
  have v1 := dp_in b1 (n := 12) (by decide) (by decide)
  refine t_X12_stay d h I.1 x1 _ ⟨v1, fun _ => ⟨v1, v1, i211 I _ _, (Mo.rf _ _).im (by decide) (fun y => absurd y (by decide)), ⟨by rw [im_ne (by decide)]; exact n1.1, fun z => by rw [im_ne (by decide)] at z; exact absurd z n1.2⟩⟩, fun _ => Cv.mono (c_goHome d I x1 b1) (fun h' q => ⟨q.1.1, q⟩)⟩
theorem c_goDrawn (d : Nat) {h : Hp_} (I : Iv h) (x1 : Int32) (b1 : rin x1.toInt (0, 11)) (n1 : ¬ h_i h 208 x1.toNatClampNeg = 1 ∧ ¬ h_i h 208 x1.toNatClampNeg = 0) : Cv (m_X12_goDrawn (d + 4) 0 0) [.ref 1, .int x1] h (fun h' => Iv h' ∧ Mo x1.toNatClampNeg h h' ∧ Jd h' x1.toNatClampNeg) := by
  have v1 := dp_in b1 (n := 12) (by decide) (by decide)
  refine t_X12_goDrawn d h I.1 x1 _ ⟨v1, v1, ?_⟩
  refine Cv.mono (c_setOut d (i211 I x1.toNatClampNeg (-1)) x1 _ b1 (drawn_in I _)) (fun h' q => ?_)
  have M1 : Mo x1.toNatClampNeg h h' := ((Mo.rf _ _).im (by decide) (fun y => absurd y (by decide))).tr q.2.1
  have n2 : ¬ h_i h' 208 x1.toNatClampNeg = 1 ∧ ¬ h_i h' 208 x1.toNatClampNeg = 0 := by rw [q.2.2.1, im_ne (by decide)]; exact n1
  exact ⟨q.1.1, v1, fun _ => ⟨q.1, M1, n2.1, fun z => absurd z n2.2⟩, fun _ => Cv.mono (c_stay d q.1 x1 b1 n2) (fun h2 q2 => ⟨q2.1.1, q2.1, M1.tr q2.2.1, q2.2.2⟩)⟩
end
section
/-! a man on his beat -/
/-- the points among the steps of the beat b from s on, f of them looked at -/
def mP (wh : Nat → Int32) (b : Nat) : Nat → Nat → Nat
  | 0, _ => 0
  | f + 1, s => (if wh (150 * b + s) = 2 then 1 else 0) + mP wh b f (s + 1)
abbrev nB (h : Hp_) (c : Nat) : Nat := (h_i h 212 c).toNatClampNeg
abbrev nS (h : Hp_) (c : Nat) : Nat := (h_i h 213 c).toNatClampNeg
abbrev nZ (h : Hp_) (c : Nat) : Nat := (h_i h 227 (nB h c)).toNatClampNeg
/-- before a step: there is room in the rows for all points to come -/
def Gs (h : Hp_) (c : Nat) : Prop := 0 ≤ (h_i h 213 c).toInt ∧ nS h c ≤ nZ h c ∧ (h_i h 212 c).toInt < (h_i h 1 42).toInt ∧ (h_i h 216 c).toInt + (mP (h_i h 228) (nB h c) (nZ h c - nS h c) (nS h c) : Int) ≤ 400 ∧ h_i h 210 c = -1
/-- between the calls -/
def Jm (h : Hp_) (c : Nat) : Prop := (h_i h 208 c = 0 → h_i h 210 c = -1) ∧ (h_i h 208 c = 1 → 0 ≤ (h_i h 213 c).toInt ∧ nS h c < nZ h c ∧ (h_i h 212 c).toInt < (h_i h 1 42).toInt ∧ (h_i h 216 c).toInt + (mP (h_i h 228) (nB h c) (nZ h c - (nS h c + 1)) (nS h c + 1) : Int) ≤ 400 ∧ (¬ h_i h 210 c = -1 → (h_i h 216 c).toInt + (mP (h_i h 228) (nB h c) (nZ h c - nS h c) (nS h c) : Int) ≤ 400))
theorem Jd.jm {h : Hp_} {c : Nat} (j : Jd h c) : Jm h c := ⟨j.2, fun z => absurd z j.1⟩
theorem Mo.wh {c : Nat} {h h' : Hp_} (m : Mo c h h') : h_i h' 228 = h_i h 228 := funext m.2.2.1
theorem Jm_o {c c' : Nat} {h h' : Hp_} (m : Mo c h h') (n : c' ≠ c) (j : Jm h c') : Jm h' c' := by
  have e := fun (a : Nat) (ha : mrow a = true) => m.1 a ha c' n
  have ez : nZ h' c' = nZ h c' := by show (h_i h' 227 (h_i h' 212 c').toNatClampNeg).toNatClampNeg = _; rw [e 212 rfl, m.2.1]
  have es : nS h' c' = nS h c' := by show (h_i h' 213 c').toNatClampNeg = _; rw [e 213 rfl]
  have eb : nB h' c' = nB h c' := by show (h_i h' 212 c').toNatClampNeg = _; rw [e 212 rfl]
  unfold Jm
  rw [ez, es, eb, e 208 rfl, e 210 rfl, e 212 rfl, e 213 rfl, e 216 rfl, m.wh, m.b42]
  exact j
theorem mP_s {wh : Nat → Int32} {b z s : Nat} (h : s < z) : mP wh b (z - s) s = (if wh (150 * b + s) = 2 then 1 else 0) + mP wh b (z - (s + 1)) (s + 1) := by
  obtain ⟨f, e⟩ : ∃ f, z - s = f + 1 := ⟨z - s - 1, by omega⟩
  rw [e, show z - (s + 1) = f by omega]
  rfl
theorem Gs_f {c : Nat} {h h' : Hp_} (m : Mo c h h') (o : So c h h') : (∀ b, h_i h' 227 b = h_i h 227 b) ∧ nZ h' c = nZ h c ∧ nS h' c = nS h c ∧ nB h' c = nB h c := by
  refine ⟨m.2.1, ?_, ?_, ?_⟩
  · show (h_i h' 227 (h_i h' 212 c).toNatClampNeg).toNatClampNeg = _; rw [o.2.1, m.2.1]
  · show (h_i h' 213 c).toNatClampNeg = _; rw [o.2.2.1]
  · show (h_i h' 212 c).toNatClampNeg = _; rw [o.2.1]
theorem Gs_s {c : Nat} {h h' : Hp_} (m : Mo c h h') (o : So c h h') (e : h_i h' 210 c = h_i h 210 c) (g : Gs h c) : Gs h' c := by
  obtain ⟨_, ez, es, eb⟩ := Gs_f m o
  unfold Gs
  rw [ez, es, eb, o.2.1, o.2.2.1, o.2.2.2, m.wh, m.b42, e]
  exact g
theorem Gs_j {c : Nat} {h h' : Hp_} (m : Mo c h h') (o : So c h h') (d1 : h_i h 208 c = 1) (g : Gs h c) (l : nS h c < nZ h c) : Jm h' c := by
  obtain ⟨_, ez, es, eb⟩ := Gs_f m o
  refine ⟨fun z => by rw [o.1, d1] at z; exact absurd z (by decide), fun _ => ?_⟩
  rw [ez, es, eb, o.2.1, o.2.2.1, o.2.2.2, m.wh, m.b42]
  have p := mP_s (wh := h_i h 228) (b := nB h c) l
  have g4 := g.2.2.2.1
  exact ⟨g.1, l, g.2.2.1, by omega, fun _ => g4⟩
theorem c_miss (d : Nat) {h : Hp_} (I : Iv h) (c : Nat) (x1 x2 : Int32) (b1 : rin x1.toInt (0, 399)) : Cv (m_X12_miss (d + 0) 0 0) [.ref 1, .int x1, .int x2] h (fun h' => Iv h' ∧ Mo c h h' ∧ So c h h' ∧ h_i h' 210 c = h_i h 210 c) := by
  have v := dp_in b1 (n := 400) (by decide) (by decide)
  exact t_X12_miss d h I.1 x1 x2 _ ⟨v, v, i243 (i242 I _ _) _ _, ((Mo.rf _ _).im (by decide) (fun y => absurd y (by decide))).im (by decide) (fun y => absurd y (by decide)), ((So.rf _ _).im (by decide)).im (by decide), by rw [im_ne (by decide), im_ne (by decide)]⟩
/-- a point is come to: one row further -/
def Cm (c : Nat) (h h' : Hp_) : Prop := Iv h' ∧ Mo c h h' ∧ (h_i h' 208 c = h_i h 208 c ∧ h_i h' 212 c = h_i h 212 c ∧ h_i h' 213 c = h_i h 213 c ∧ h_i h' 210 c = h_i h 210 c) ∧ (h_i h' 216 c).toInt = (h_i h 216 c).toInt + 1
theorem rw_in {h : Hp_} (I : Iv h) (c : Nat) : rin (h_i h 216 c).toInt (0, 400) := dp_rg I 216 c (by decide +kernel)
theorem c_comes (d : Nat) {h : Hp_} (I : Iv h) (x1 x2 : Int32) (b1 : rin x1.toInt (0, 11)) (l : (h_i h 216 x1.toNatClampNeg).toInt ≤ 399) : Ci (m_X12_comes (d + 1) 0 0) [.ref 1, .int x1, .int x2] h (fun _ h' => Cm x1.toNatClampNeg h h') := by
  have v1 := dp_in b1 (n := 12) (by decide) (by decide)
  have t1 : (1 : Int32).toInt = 1 := rfl
  have r0 : 0 ≤ (h_i h 216 x1.toNatClampNeg).toInt := (rw_in I _).1
  have e1 : (h_i h 216 x1.toNatClampNeg + 1).toInt = (h_i h 216 x1.toNatClampNeg).toInt + 1 := by rw [tx_add (by rw [t1]; omega) (by rw [t1]; omega), t1]
  have vr : vp_in (h_i h 216 x1.toNatClampNeg) 400 := dp_in (lo := 0) (hi := 399) ⟨r0, l⟩ (by decide) (by decide)
  have I1 : Iv (h_im h 216 x1.toNatClampNeg (h_i h 216 x1.toNatClampNeg + 1)) := i216 I _ ⟨by show (0 : Int) ≤ _; omega, by show _ ≤ (400 : Int); omega⟩
  have M1 : Mo x1.toNatClampNeg h (h_im h 216 x1.toNatClampNeg (h_i h 216 x1.toNatClampNeg + 1)) := (Mo.rf _ _).im (by decide) (fun _ => rfl)
  have C1 : Cm x1.toNatClampNeg h (h_im h 216 x1.toNatClampNeg (h_i h 216 x1.toNatClampNeg + 1)) := ⟨I1, M1, ⟨im_ne (by decide), im_ne (by decide), im_ne (by decide), im_ne (by decide)⟩, by rw [im_at]; exact e1⟩
  have st : ∀ {h1 : Hp_} {a k : Nat} {v : Int32}, Cm x1.toNatClampNeg h h1 → Iv (h_im h1 a k v) → (Nat.beq a 227 || Nat.beq a 228 || Nat.beq a 1 || !(inw wsR a 999)) = false → mrow a = false → Cm x1.toNatClampNeg h (h_im h1 a k v) := by
    intro h1 a k v C J hb hm
    have n : ∀ {y : Nat}, mrow y = true → y ≠ a := fun {y} z e => by rw [e, hm] at z; cases z
    exact ⟨J, C.2.1.im hb (fun z => by rw [hm] at z; cases z), ⟨by rw [im_ne (n rfl)]; exact C.2.2.1.1, by rw [im_ne (n rfl)]; exact C.2.2.1.2.1, by rw [im_ne (n rfl)]; exact C.2.2.1.2.2.1, by rw [im_ne (n rfl)]; exact C.2.2.1.2.2.2⟩, by rw [im_ne (n rfl)]; exact C.2.2.2⟩
  have C2 := fun (v : Int32) => st C1 (i241 I1 (h_i h 216 x1.toNatClampNeg).toNatClampNeg v) (by decide) (by decide)
  refine t_X12_comes d h I.1 x1 x2 _ ⟨v1, v1, v1, v1, fun _ => ⟨vr, fun _ => C2 _, fun _ => ⟨v1, st (C2 _) (i211 (C2 _).1 _ _) (by decide) (by decide)⟩⟩, fun _ => ?_⟩
  refine Cv.mono (c_miss d I1 x1.toNatClampNeg _ 1 ⟨r0, l⟩) (fun h' q => ⟨q.1.1, q.1, M1.tr q.2.1, ?_, ?_⟩)
  · exact ⟨by rw [q.2.2.1.1]; exact C1.2.2.1.1, by rw [q.2.2.1.2.1]; exact C1.2.2.1.2.1, by rw [q.2.2.1.2.2.1]; exact C1.2.2.1.2.2.1, by rw [q.2.2.2]; exact C1.2.2.1.2.2.2⟩
  · rw [q.2.2.1.2.2.2]; exact C1.2.2.2
/-- a step further -/
theorem Gs_n {c : Nat} {h h' : Hp_} {x : Int32} (I : Iv h) (m : Mo c h h') (e2 : h_i h' 212 c = h_i h 212 c) (e3 : h_i h' 213 c = x) (e4 : h_i h' 210 c = h_i h 210 c) (ex : x.toInt = (h_i h 213 c).toInt + 1) (g : Gs h c) (l : nS h c < nZ h c)
    (er : (h_i h' 216 c).toInt ≤ (h_i h 216 c).toInt + (if h_i h 228 (150 * nB h c + nS h c) = 2 then 1 else 0 : Nat)) : Gs h' c ∧ nS h' c = nS h c + 1 ∧ nZ h' c = nZ h c := by
  have ez : nZ h' c = nZ h c := by show (h_i h' 227 (h_i h' 212 c).toNatClampNeg).toNatClampNeg = _; rw [e2, m.2.1]
  have eb : nB h' c = nB h c := by show (h_i h' 212 c).toNatClampNeg = _; rw [e2]
  have s0 := g.1
  have es : nS h' c = nS h c + 1 := by
    show (h_i h' 213 c).toNatClampNeg = (h_i h 213 c).toNatClampNeg + 1
    have a := n_nat (x := h_i h 213 c) s0
    have b := n_nat (x := x) (by omega)
    rw [e3]
    omega
  refine ⟨?_, es, ez⟩
  unfold Gs
  rw [ez, es, eb, e2, e3, e4, m.wh, m.b42]
  have p := mP_s (wh := h_i h 228) (b := nB h c) l
  have g4 := g.2.2.2.1
  refine ⟨by omega, by omega, g.2.2.1, ?_, g.2.2.2.2⟩
  rw [p] at g4
  omega
end
section
/-! goOn of the reference -/
theorem go_ix {h : Hp_} (I : Iv h) {c : Nat} (g : Gs h c) (l : nS h c < nZ h c) : (150 * h_i h 212 c + h_i h 213 c).toInt = 150 * (nB h c : Int) + (nS h c : Int) ∧ (150 * h_i h 212 c + h_i h 213 c).toNatClampNeg = 150 * nB h c + nS h c ∧ vp_in (150 * h_i h 212 c + h_i h 213 c) 1800 := by
  have t150 : (150 : Int32).toInt = 150 := rfl
  have bb := dp_rg I 212 c (show tfa 212 = some (0, 11) by decide +kernel)
  have b0 : 0 ≤ (h_i h 212 c).toInt := bb.1
  have b1 : (h_i h 212 c).toInt ≤ 11 := bb.2
  have zz := dp_rg I 227 (nB h c) (show tfa 227 = some (0, 150) by decide +kernel)
  have z0 : 0 ≤ (h_i h 227 (nB h c)).toInt := zz.1
  have z1 : (h_i h 227 (nB h c)).toInt ≤ 150 := zz.2
  have nb := n_nat (x := h_i h 212 c) b0
  have ns := n_nat (x := h_i h 213 c) g.1
  have nz := n_nat (x := h_i h 227 (nB h c)) z0
  have m1 : (150 * h_i h 212 c).toInt = 150 * (h_i h 212 c).toInt := by rw [tx_mul (by rw [t150]; omega) (by rw [t150]; omega), t150]
  have l' : (h_i h 213 c).toNatClampNeg < (h_i h 227 (nB h c)).toNatClampNeg := l
  have m2 : (150 * h_i h 212 c + h_i h 213 c).toInt = 150 * (h_i h 212 c).toInt + (h_i h 213 c).toInt := by rw [tx_add (by omega) (by omega), m1]
  have e : (150 * h_i h 212 c + h_i h 213 c).toInt = 150 * (nB h c : Int) + (nS h c : Int) := by rw [m2]; show _ = 150 * ((h_i h 212 c).toNatClampNeg : Int) + ((h_i h 213 c).toNatClampNeg : Int); omega
  have nn := n_nat (x := 150 * h_i h 212 c + h_i h 213 c) (by omega)
  refine ⟨e, by omega, dp_in (lo := 0) (hi := 1799) ⟨by show (0 : Int) ≤ _; omega, by show _ ≤ (1799 : Int); omega⟩ (by decide) (by decide)⟩
theorem go_loop (d : Nat) (h0 : Hp_) (x1 : Int32) (b1 : rin x1.toInt (0, 11)) : ∀ (r : Nat) (h : Hp_), Iv h → Mo x1.toNatClampNeg h0 h → (¬ h_i h 208 x1.toNatClampNeg = 1 → Jd h x1.toNatClampNeg) → (h_i h 208 x1.toNatClampNeg = 1 → Gs h x1.toNatClampNeg ∧ nZ h x1.toNatClampNeg - nS h x1.toNatClampNeg ≤ r) →
    AW (m_X12_goOn (d + 3) 0 0) 0 0 0 [(0, .ref 1), (1, .int x1)] [] h (kV (fun h' => Iv h' ∧ Mo x1.toNatClampNeg h0 h' ∧ Jm h' x1.toNatClampNeg)) := by
  have v1 := dp_in b1 (n := 12) (by decide) (by decide)
  have t1 : (1 : Int32).toInt = 1 := rfl
  generalize hc : x1.toNatClampNeg = c
  intro r
  induction r with
  | zero =>
    intro h I M nd yd
    have hB := dp_in (dp_rg I 212 c (show tfa 212 = some (0, 11) by decide +kernel)) (n := 12) (by decide) (by decide)
    have tr := t_X12_goOn_0 d h I.1 x1 (fun h' => Iv h' ∧ Mo c h0 h' ∧ Jm h' c)
    rw [hc] at tr
    refine tr ⟨v1, fun n => ⟨I, M, (nd n).jm⟩, fun d1 => ⟨v1, v1, hB, fun ne => ?_, fun _ => ?_⟩⟩
    · obtain ⟨g, gr⟩ := yd d1
      exfalso
      apply ne
      have zz := dp_rg I 227 (nB h c) (show tfa 227 = some (0, 150) by decide +kernel)
      have a := n_nat (x := h_i h 227 (nB h c)) zz.1
      have b := n_nat (x := h_i h 213 c) g.1
      have l1 : (h_i h 213 c).toNatClampNeg ≤ (h_i h 227 (nB h c)).toNatClampNeg := g.2.1
      have l2 : (h_i h 227 (nB h c)).toNatClampNeg - (h_i h 213 c).toNatClampNeg ≤ 0 := gr
      exact Int32.toInt_inj.mp (by show (h_i h 213 c).toInt = (h_i h 227 (nB h c)).toInt; omega)
    · have gh := c_goHome d I x1 b1
      rw [hc] at gh
      exact Cv.mono gh (fun h' q => ⟨q.1.1, q.1, M.tr q.2.1, q.2.2.jm⟩)
  | succ r ih =>
    intro h I M nd yd
    have hB := dp_in (dp_rg I 212 c (show tfa 212 = some (0, 11) by decide +kernel)) (n := 12) (by decide) (by decide)
    have tr := t_X12_goOn_0 d h I.1 x1 (fun h' => Iv h' ∧ Mo c h0 h' ∧ Jm h' c)
    rw [hc] at tr
    have gh := c_goHome d I x1 b1
    rw [hc] at gh
    refine tr ⟨v1, fun n => ⟨I, M, (nd n).jm⟩, fun d1 => ⟨v1, v1, hB, fun ne => ?_, fun _ => Cv.mono gh (fun h' q => ⟨q.1.1, q.1, M.tr q.2.1, q.2.2.jm⟩)⟩⟩
    obtain ⟨g, gr⟩ := yd d1
    have zz := dp_rg I 227 (nB h c) (show tfa 227 = some (0, 150) by decide +kernel)
    have nz := n_nat (x := h_i h 227 (nB h c)) zz.1
    have ns := n_nat (x := h_i h 213 c) g.1
    have z1 : (h_i h 227 (nB h c)).toInt ≤ 150 := zz.2
    have l : nS h c < nZ h c := by
      rcases Nat.lt_or_ge (nS h c) (nZ h c) with y | y
      · exact y
      · exfalso
        apply ne
        have l1 : (h_i h 213 c).toNatClampNeg ≤ (h_i h 227 (nB h c)).toNatClampNeg := g.2.1
        have y' : (h_i h 227 (nB h c)).toNatClampNeg ≤ (h_i h 213 c).toNatClampNeg := y
        exact Int32.toInt_inj.mp (by show (h_i h 213 c).toInt = (h_i h 227 (nB h c)).toInt; omega)
    have l' : (h_i h 213 c).toNatClampNeg < (h_i h 227 (nB h c)).toNatClampNeg := l
    obtain ⟨_, ix, vi⟩ := go_ix I g l
    rw [ix]
    have g4 := g.2.2.2.1
    rw [mP_s l] at g4
    have nx : ∀ (h2 : Hp_) (x : Int32), Iv h2 → Mo c h h2 → h_i h2 208 c = 1 → h_i h2 212 c = h_i h 212 c → h_i h2 213 c = h_i h 213 c → h_i h2 210 c = h_i h 210 c → (h_i h2 216 c).toInt ≤ (h_i h 216 c).toInt + (if h_i h 228 (150 * nB h c + nS h c) = 2 then 1 else 0 : Nat) → x = h_i h2 213 c + 1 →
        AW (m_X12_goOn (d + 3) 0 0) 0 0 0 [(0, .ref 1), (1, .int x1)] [] (h_im h2 213 c x) (kV (fun h' => Iv h' ∧ Mo c h0 h' ∧ Jm h' c)) := by
      intro h2 x I2 M2 e1 e2 e3 e4 e5 ex
      have exi : x.toInt = (h_i h 213 c).toInt + 1 := by rw [ex, e3, tx_add (by rw [t1]; omega) (by rw [t1]; omega), t1]
      have M3 : Mo c h (h_im h2 213 c x) := M2.im (by decide) (fun _ => rfl)
      obtain ⟨g3, s3, z3⟩ := Gs_n (x := x) I M3 (by rw [im_ne (by decide)]; exact e2) im_at (by rw [im_ne (by decide)]; exact e4) exi g l (by rw [im_ne (by decide)]; exact e5)
      refine ih _ (i213 I2 _ ⟨by show (-1 : Int) ≤ _; omega, by show _ ≤ (150 : Int); omega⟩) (M.tr M3) (fun n => absurd (by rw [im_ne (by decide)]; exact e1) n) (fun _ => ⟨g3, ?_⟩)
      rw [s3, z3]; omega
    have I1 := i211 I c (-1)
    have M1 : Mo c h (h_im h 211 c (-1)) := (Mo.rf _ _).im (by decide) (fun y => absurd y (by decide))
    have S1 : So c h (h_im h 211 c (-1)) := (So.rf _ _).im (by decide)
    have wkc : ¬ h_i h 228 (150 * nB h c + nS h c) = 1 → ∀ (q : Int32) (h2 : Hp_), Iv h2 → Fr wz_X12_walkOf (h_im h 211 c (-1)) h2 → (Mo c h h2 ∧ So c h h2 ∧ h_i h2 210 c = h_i h 210 c) := by
      intro _ q h2 I2 F2
      exact ⟨M1.tr (Mo.fr F2 (by decide +kernel)), S1.tr (So.fr F2 (by decide +kernel)), by rw [fr_i F2 (a := 210) (by decide +kernel), im_ne (by decide)]⟩
    have so : ∀ h2, Iv h2 → Mo c h h2 → So c h h2 → ¬ h_i h 228 (150 * nB h c + nS h c) = 1 → Cv (m_X12_setOut (d + 1) 0 0) [.ref 1, .int x1, .int (h_i h2 229 (150 * nB h c + nS h c))] h2 (fun h' => Wf h' ∧ (Iv h' ∧ Mo c h0 h' ∧ Jm h' c)) := by
      intro h2 I2 M2 S2 w
      have cs := c_setOut d I2 x1 (h_i h2 229 (150 * nB h c + nS h c)) b1 (I2.2.2.2.2.2.1 _ (by rw [M2.wh]; exact w))
      rw [hc] at cs
      exact Cv.mono cs (fun h' q => ⟨q.1.1, q.1, M.tr (M2.tr q.2.1), Gs_j (M2.tr q.2.1) (S2.tr q.2.2) d1 g l⟩)
    have cm : ∀ (h2 : Hp_) (x2 : Int32), Iv h2 → Mo c h h2 → So c h h2 → h_i h2 210 c = h_i h 210 c → h_i h 228 (150 * nB h c + nS h c) = 2 → Ci (m_X12_comes (d + 1) 0 0) [.ref 1, .int x1, .int x2] h2 (fun q h' => Wf h' ∧ ((q = 0 → vp_in x1 12 ∧ (vp_in x1 12 ∧ (AW (m_X12_goOn (d + 3) 0 0) 0 0 0 [(0, .ref 1), (1, .int x1)] [] (h_im h' 213 c ((h_i h' 213 c) + 1)) (kV (fun h' => Iv h' ∧ Mo c h0 h' ∧ Jm h' c))))) ∧ (¬ q = 0 → (Iv h' ∧ Mo c h0 h' ∧ Jm h' c)))) := by
      intro h2 x2 I2 M2 S2 e210 w
      rw [if_pos w] at g4
      have cc := c_comes d I2 x1 x2 b1 (by rw [hc, S2.2.2.2]; omega)
      rw [hc] at cc
      refine Ci.mono cc (fun q h' C => ⟨C.1.1, fun _ => ⟨v1, v1, nx h' _ C.1 (M2.tr C.2.1) ?_ ?_ ?_ ?_ ?_ rfl⟩, fun _ => ⟨C.1, M.tr (M2.tr C.2.1), ?_⟩⟩)
      · rw [C.2.2.1.1, S2.1]; exact d1
      · rw [C.2.2.1.2.1, S2.2.1]
      · rw [C.2.2.1.2.2.1, S2.2.2.1]
      · rw [C.2.2.1.2.2.2, e210]
      · rw [C.2.2.2, S2.2.2.2, if_pos w]; omega
      · have M' := M2.tr C.2.1
        have f1 : h_i h' 208 c = 1 := by rw [C.2.2.1.1, S2.1]; exact d1
        have f2 : h_i h' 212 c = h_i h 212 c := by rw [C.2.2.1.2.1, S2.2.1]
        have f3 : h_i h' 213 c = h_i h 213 c := by rw [C.2.2.1.2.2.1, S2.2.2.1]
        have f4 : h_i h' 210 c = -1 := by rw [C.2.2.1.2.2.2, e210]; exact g.2.2.2.2
        have ez : nZ h' c = nZ h c := by show (h_i h' 227 (h_i h' 212 c).toNatClampNeg).toNatClampNeg = _; rw [f2, M'.2.1]
        have es : nS h' c = nS h c := by show (h_i h' 213 c).toNatClampNeg = _; rw [f3]
        have eb : nB h' c = nB h c := by show (h_i h' 212 c).toNatClampNeg = _; rw [f2]
        refine ⟨fun _ => f4, fun _ => ?_⟩
        rw [ez, es, eb, f2, f3, M'.wh, M'.b42, C.2.2.2, S2.2.2.2]
        exact ⟨g.1, l, g.2.2.1, by omega, fun z => absurd f4 z⟩
    have ms : ∀ (h2 : Hp_), Iv h2 → Mo c h h2 → So c h h2 → h_i h2 210 c = h_i h 210 c → h_i h 228 (150 * nB h c + nS h c) = 2 → Cv (m_X12_miss (d + 0) 0 0) [.ref 1, .int (h_i h2 216 c), .int 2] h2 (fun h' => Wf h' ∧ (vp_in x1 12 ∧ (vp_in x1 12 ∧ (vp_in x1 12 ∧ (vp_in x1 12 ∧ (AW (m_X12_goOn (d + 3) 0 0) 0 0 0 [(0, .ref 1), (1, .int x1)] [] (h_im (h_im h' 216 c ((h_i h' 216 c) + 1)) 213 c ((h_i h' 213 c) + 1)) (kV (fun h' => Iv h' ∧ Mo c h0 h' ∧ Jm h' c)))))))) := by
      intro h2 I2 M2 S2 e210 w
      rw [if_pos w] at g4
      have r0 : 0 ≤ (h_i h 216 c).toInt := (rw_in I c).1
      refine Cv.mono (c_miss d I2 c _ 2 (by rw [S2.2.2.2]; exact ⟨r0, by show _ ≤ (399 : Int); omega⟩)) (fun h' q => ⟨q.1.1, v1, v1, v1, v1, ?_⟩)
      have e6 : (h_i h' 216 c + 1).toInt = (h_i h 216 c).toInt + 1 := by rw [q.2.2.1.2.2.2, S2.2.2.2, tx_add (by rw [t1]; omega) (by rw [t1]; omega), t1]
      refine nx _ _ (i216 q.1 _ ⟨by show (0 : Int) ≤ _; omega, by show _ ≤ (400 : Int); omega⟩) ((M2.tr q.2.1).im (by decide) (fun _ => rfl)) ?_ ?_ ?_ ?_ ?_ ?_
      · rw [im_ne (by decide), q.2.2.1.1, S2.1]; exact d1
      · rw [im_ne (by decide), q.2.2.1.2.1, S2.2.1]
      · rw [im_ne (by decide), q.2.2.1.2.2.1, S2.2.2.1]
      · rw [im_ne (by decide), q.2.2.2, e210]
      · rw [im_at, e6, if_pos w]; omega
      · rw [im_ne (by decide)]
    refine ⟨v1, v1, vi, v1, fun w0 => ⟨v1, vi, ?_⟩, fun nw0 => ⟨fun nw2 => ⟨fun _ => ⟨v1, i211 I1 _ _, M.tr (M1.im (by decide) (fun y => absurd y (by decide))), Gs_j (M1.im (by decide) (fun y => absurd y (by decide))) (S1.im (by decide)) d1 g l⟩, fun _ => ⟨vi, v1, i211 I1 _ _, M.tr (M1.im (by decide) (fun y => absurd y (by decide))), Gs_j (M1.im (by decide) (fun y => absurd y (by decide))) (S1.im (by decide)) d1 g l⟩⟩, fun w2 => ⟨v1, vi, ?_⟩⟩⟩
    · have n1 : ¬ h_i h 228 (150 * nB h c + nS h c) = 1 := by rw [w0]; decide
      have n2 : ¬ h_i h 228 (150 * nB h c + nS h c) = 2 := by rw [w0]; decide
      refine Ci.mono (c_walkOf d I1 _ _ (I.2.2.2.2.2.1 _ n1)) (fun q h2 k => ?_)
      obtain ⟨I2, F2, _⟩ := k
      obtain ⟨M2, S2, e210⟩ := wkc n1 q h2 I2 F2
      exact ⟨I2.1, fun _ => ⟨fun _ => ⟨fun _ => ⟨v1, v1, nx h2 _ I2 M2 (by rw [S2.1]; exact d1) S2.2.1 S2.2.2.1 e210 (by rw [S2.2.2.2]; omega) rfl⟩, fun y => absurd y n2⟩, fun y => absurd y n2⟩, fun _ => ⟨vi, so h2 I2 M2 S2 n1⟩⟩
    · have n1 : ¬ h_i h 228 (150 * nB h c + nS h c) = 1 := by rw [w2]; decide
      refine Ci.mono (c_walkOf d I1 _ _ (I.2.2.2.2.2.1 _ n1)) (fun q h2 k => ?_)
      obtain ⟨I2, F2, _⟩ := k
      obtain ⟨M2, S2, e210⟩ := wkc n1 q h2 I2 F2
      exact ⟨I2.1, fun _ => ⟨fun y => absurd w2 y, fun _ => ⟨fun _ => ⟨fun y => absurd w2 y, fun _ => ⟨vi, cm h2 _ I2 M2 S2 e210 w2⟩⟩, fun _ => ⟨v1, ms h2 I2 M2 S2 e210 w2⟩⟩⟩, fun _ => ⟨vi, so h2 I2 M2 S2 n1⟩⟩
theorem c_goOn (d : Nat) {h : Hp_} (I : Iv h) (x1 : Int32) (b1 : rin x1.toInt (0, 11)) (nd : ¬ h_i h 208 x1.toNatClampNeg = 1 → Jd h x1.toNatClampNeg) (yd : h_i h 208 x1.toNatClampNeg = 1 → Gs h x1.toNatClampNeg) : Cv (m_X12_goOn (d + 3) 0 0) [.ref 1, .int x1] h (fun h' => Iv h' ∧ Mo x1.toNatClampNeg h h' ∧ Jm h' x1.toNatClampNeg) := by
  refine Ct.of (fun _ _ _ => trivial) rfl (Nat.le_of_ble_eq_true rfl) ?_
  exact go_loop d h x1 b1 (nZ h x1.toNatClampNeg) h I (Mo.rf _ _) nd (fun z => ⟨yd z, by omega⟩)
end
