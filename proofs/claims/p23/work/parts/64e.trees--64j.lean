section
theorem t_X12_wakeBeat (d : Nat) (h : Hp_) (w : Wf h) (x1 : Int32) (x2 : Int32) (K : Hp_ → Prop) (k : vp_in x1 12 ∧ (vp_in x1 12 ∧ ((x2 = 0 → vp_in ((150 * (h_i h 212 x1.toNatClampNeg)) + (h_i h 213 x1.toNatClampNeg)) 1800 ∧ ((¬ (h_i h 228 (((150 * (h_i h 212 x1.toNatClampNeg)) + (h_i h 213 x1.toNatClampNeg)) : Int32).toNatClampNeg) = 3 → vp_in x1 12 ∧ (vp_in x1 12 ∧ (Cv (m_X12_goOn (d + 3) 0 0) [.ref 1, .int x1] (h_im h 213 x1.toNatClampNeg ((h_i h 213 x1.toNatClampNeg) + 1)) (fun h8 => Wf h8 ∧ (K h8))))) ∧ ((h_i h 228 (((150 * (h_i h 212 x1.toNatClampNeg)) + (h_i h 213 x1.toNatClampNeg)) : Int32).toNatClampNeg) = 3 → Cv (m_X12_see (d + 7) 0 0) [.ref 1, .int x1] h (fun h11 => Wf h11 ∧ (vp_in x1 12 ∧ (vp_in x1 12 ∧ (Cv (m_X12_goOn (d + 3) 0 0) [.ref 1, .int x1] (h_im h11 213 x1.toNatClampNeg ((h_i h11 213 x1.toNatClampNeg) + 1)) (fun h16 => Wf h16 ∧ (K h16))))))))) ∧ (¬ x2 = 0 → vp_in ((150 * (h_i h 212 x1.toNatClampNeg)) + (h_i h 213 x1.toNatClampNeg)) 1800 ∧ ((¬ (h_i h 228 (((150 * (h_i h 212 x1.toNatClampNeg)) + (h_i h 213 x1.toNatClampNeg)) : Int32).toNatClampNeg) = 2 → vp_in x1 12 ∧ (vp_in x1 12 ∧ (Cv (m_X12_goOn (d + 3) 0 0) [.ref 1, .int x1] (h_im h 213 x1.toNatClampNeg ((h_i h 213 x1.toNatClampNeg) + 1)) (fun h23 => Wf h23 ∧ (K h23))))) ∧ ((h_i h 228 (((150 * (h_i h 212 x1.toNatClampNeg)) + (h_i h 213 x1.toNatClampNeg)) : Int32).toNatClampNeg) = 2 → vp_in ((150 * (h_i h 212 x1.toNatClampNeg)) + (h_i h 213 x1.toNatClampNeg)) 1800 ∧ (Ci (m_X12_comes (d + 1) 0 0) [.ref 1, .int x1, .int (h_i h 230 (((150 * (h_i h 212 x1.toNatClampNeg)) + (h_i h 213 x1.toNatClampNeg)) : Int32).toNatClampNeg)] h (fun r29 h27 => Wf h27 ∧ ((r29 = 0 → vp_in x1 12 ∧ (vp_in x1 12 ∧ (Cv (m_X12_goOn (d + 3) 0 0) [.ref 1, .int x1] (h_im h27 213 x1.toNatClampNeg ((h_i h27 213 x1.toNatClampNeg) + 1)) (fun h33 => Wf h33 ∧ (K h33))))) ∧ (¬ r29 = 0 → K h27)))))))))) : Cv (m_X12_wakeBeat (d + 8) 0 0) [.ref 1, .int x1, .int x2] h K := by
  refine Ct.of (fun _ _ _ => trivial) rfl (Nat.le_of_ble_eq_true rfl) ?_
  show AW (m_X12_wakeBeat (d + 8) 0 0) 0 0 0 [(0, .ref 1), (1, .int x1), (2, .int x2)] [] h (kV K)
  refine aw_sipush (v := 150) d_X12_wakeBeat_0 is_150 ?_
  refine aw_aload_n (i := 0) rfl d_X12_wakeBeat_3 0 rfl ?_
  refine aw_getr (k0 := 16) kc_12 (ws_1 w) (Nat.le_of_ble_eq_true rfl) tw_1758 d_X12_wakeBeat_4 rfl (wr_1_16 w) ?_
  refine aw_iload_n (i := 1) rfl d_X12_wakeBeat_7 1 rfl ?_
  obtain ⟨b1, k⟩ := k
  refine aw_iald (ws_212 w) b1 d_X12_wakeBeat_8 ?_
  refine aw_imul d_X12_wakeBeat_9 ?_
  refine aw_aload_n (i := 0) rfl d_X12_wakeBeat_10 0 rfl ?_
  refine aw_getr (k0 := 17) kc_12 (ws_1 w) (Nat.le_of_ble_eq_true rfl) tw_1759 d_X12_wakeBeat_11 rfl (wr_1_17 w) ?_
  refine aw_iload_n (i := 1) rfl d_X12_wakeBeat_14 1 rfl ?_
  obtain ⟨b2, k⟩ := k
  refine aw_iald (ws_213 w) b2 d_X12_wakeBeat_15 ?_
  refine aw_iadd d_X12_wakeBeat_16 ?_
  refine aw_istore_n (i := 3) rfl [(0, .ref 1), (1, .int x1), (2, .int x2), (3, .int ((150 * (h_i h 212 x1.toNatClampNeg)) + (h_i h 213 x1.toNatClampNeg)))] d_X12_wakeBeat_17 (Nat.le_of_ble_eq_true rfl) rfl rfl ?_
  refine aw_iload_n (i := 2) rfl d_X12_wakeBeat_18 2 rfl ?_
  refine aw_if_eq (tgt := 47) d_X12_wakeBeat_19 rfl (fun c3 => ?_) (fun c3 => ?_)
  · have k := k.1 c3
    refine aw_aload_n (i := 0) rfl d_X12_wakeBeat_47 0 rfl ?_
    refine aw_getr (k0 := 39) kc_12 (ws_1 w) (Nat.le_of_ble_eq_true rfl) tw_1781 d_X12_wakeBeat_48 rfl (wr_1_39 w) ?_
    refine aw_iload_n (i := 3) rfl d_X12_wakeBeat_51 3 rfl ?_
    obtain ⟨b4, k⟩ := k
    refine aw_iald (ws_228 w) b4 d_X12_wakeBeat_52 ?_
    refine aw_iconst (v := 3) d_X12_wakeBeat_53 ic_3 ?_
    refine aw_icmp_ne (tgt := 62) d_X12_wakeBeat_54 rfl (fun c5 => ?_) (fun c5 => ?_)
    · have k := k.1 c5
      refine aw_aload_n (i := 0) rfl d_X12_wakeBeat_62 0 rfl ?_
      refine aw_getr (k0 := 17) kc_12 (ws_1 w) (Nat.le_of_ble_eq_true rfl) tw_1759 d_X12_wakeBeat_63 rfl (wr_1_17 w) ?_
      refine aw_iload_n (i := 1) rfl d_X12_wakeBeat_66 1 rfl ?_
      refine aw_dup2 d_X12_wakeBeat_67 ⟨rfl, rfl⟩ ?_
      obtain ⟨b6, k⟩ := k
      refine aw_iald (ws_213 w) b6 d_X12_wakeBeat_68 ?_
      refine aw_iconst (v := 1) d_X12_wakeBeat_69 ic_1 ?_
      refine aw_iadd d_X12_wakeBeat_70 ?_
      obtain ⟨b7, k⟩ := k
      refine aw_iast (ws_213 w) b7 d_X12_wakeBeat_71 ?_
      refine aw_aload_n (i := 0) rfl d_X12_wakeBeat_72 0 rfl ?_
      refine aw_iload_n (i := 1) rfl d_X12_wakeBeat_73 1 rfl ?_
      refine aw_Vv 1 [.int x1] [] d_X12_wakeBeat_74 (cV_X12_goOn (d + 3) 0 0) kc_12 (ws_1 w) tw_2336 rfl (rr0 (Nat.le_of_ble_eq_true rfl) (Nat.le_of_ble_eq_true rfl)) (Nat.le_of_ble_eq_true rfl) xs0 k (fun h8 kk => ?_)
      obtain ⟨w9, k⟩ := kk
      exact aw_vret rfl d_X12_wakeBeat_77 ⟨Nat.le_refl _, Nat.le_refl _⟩ ⟨rfl, k⟩
    · have k := k.2 c5
      refine aw_aload_n (i := 0) rfl d_X12_wakeBeat_57 0 rfl ?_
      refine aw_iload_n (i := 1) rfl d_X12_wakeBeat_58 1 rfl ?_
      refine aw_Vv 1 [.int x1] [] d_X12_wakeBeat_59 (cV_X12_see (d + 7) 0 0) kc_12 (ws_1 w) tw_2392 rfl (rr0 (Nat.le_of_ble_eq_true rfl) (Nat.le_of_ble_eq_true rfl)) (Nat.le_of_ble_eq_true rfl) xs0 k (fun h11 kk => ?_)
      obtain ⟨w12, k⟩ := kk
      refine aw_aload_n (i := 0) rfl d_X12_wakeBeat_62 0 rfl ?_
      refine aw_getr (k0 := 17) kc_12 (ws_1 w12) (Nat.le_of_ble_eq_true rfl) tw_1759 d_X12_wakeBeat_63 rfl (wr_1_17 w12) ?_
      refine aw_iload_n (i := 1) rfl d_X12_wakeBeat_66 1 rfl ?_
      refine aw_dup2 d_X12_wakeBeat_67 ⟨rfl, rfl⟩ ?_
      obtain ⟨b14, k⟩ := k
      refine aw_iald (ws_213 w12) b14 d_X12_wakeBeat_68 ?_
      refine aw_iconst (v := 1) d_X12_wakeBeat_69 ic_1 ?_
      refine aw_iadd d_X12_wakeBeat_70 ?_
      obtain ⟨b15, k⟩ := k
      refine aw_iast (ws_213 w12) b15 d_X12_wakeBeat_71 ?_
      refine aw_aload_n (i := 0) rfl d_X12_wakeBeat_72 0 rfl ?_
      refine aw_iload_n (i := 1) rfl d_X12_wakeBeat_73 1 rfl ?_
      refine aw_Vv 1 [.int x1] [] d_X12_wakeBeat_74 (cV_X12_goOn (d + 3) 0 0) kc_12 (ws_1 w12) tw_2336 rfl (rr0 (Nat.le_of_ble_eq_true rfl) (Nat.le_of_ble_eq_true rfl)) (Nat.le_of_ble_eq_true rfl) xs0 k (fun h16 kk => ?_)
      obtain ⟨w17, k⟩ := kk
      exact aw_vret rfl d_X12_wakeBeat_77 ⟨Nat.le_refl _, Nat.le_refl _⟩ ⟨rfl, k⟩
  · have k := k.2 c3
    refine aw_aload_n (i := 0) rfl d_X12_wakeBeat_22 0 rfl ?_
    refine aw_getr (k0 := 39) kc_12 (ws_1 w) (Nat.le_of_ble_eq_true rfl) tw_1781 d_X12_wakeBeat_23 rfl (wr_1_39 w) ?_
    refine aw_iload_n (i := 3) rfl d_X12_wakeBeat_26 3 rfl ?_
    obtain ⟨b19, k⟩ := k
    refine aw_iald (ws_228 w) b19 d_X12_wakeBeat_27 ?_
    refine aw_iconst (v := 2) d_X12_wakeBeat_28 ic_2 ?_
    refine aw_icmp_ne (tgt := 62) d_X12_wakeBeat_29 rfl (fun c20 => ?_) (fun c20 => ?_)
    · have k := k.1 c20
      refine aw_aload_n (i := 0) rfl d_X12_wakeBeat_62 0 rfl ?_
      refine aw_getr (k0 := 17) kc_12 (ws_1 w) (Nat.le_of_ble_eq_true rfl) tw_1759 d_X12_wakeBeat_63 rfl (wr_1_17 w) ?_
      refine aw_iload_n (i := 1) rfl d_X12_wakeBeat_66 1 rfl ?_
      refine aw_dup2 d_X12_wakeBeat_67 ⟨rfl, rfl⟩ ?_
      obtain ⟨b21, k⟩ := k
      refine aw_iald (ws_213 w) b21 d_X12_wakeBeat_68 ?_
      refine aw_iconst (v := 1) d_X12_wakeBeat_69 ic_1 ?_
      refine aw_iadd d_X12_wakeBeat_70 ?_
      obtain ⟨b22, k⟩ := k
      refine aw_iast (ws_213 w) b22 d_X12_wakeBeat_71 ?_
      refine aw_aload_n (i := 0) rfl d_X12_wakeBeat_72 0 rfl ?_
      refine aw_iload_n (i := 1) rfl d_X12_wakeBeat_73 1 rfl ?_
      refine aw_Vv 1 [.int x1] [] d_X12_wakeBeat_74 (cV_X12_goOn (d + 3) 0 0) kc_12 (ws_1 w) tw_2336 rfl (rr0 (Nat.le_of_ble_eq_true rfl) (Nat.le_of_ble_eq_true rfl)) (Nat.le_of_ble_eq_true rfl) xs0 k (fun h23 kk => ?_)
      obtain ⟨w24, k⟩ := kk
      exact aw_vret rfl d_X12_wakeBeat_77 ⟨Nat.le_refl _, Nat.le_refl _⟩ ⟨rfl, k⟩
    · have k := k.2 c20
      refine aw_aload_n (i := 0) rfl d_X12_wakeBeat_32 0 rfl ?_
      refine aw_iload_n (i := 1) rfl d_X12_wakeBeat_33 1 rfl ?_
      refine aw_aload_n (i := 0) rfl d_X12_wakeBeat_34 0 rfl ?_
      refine aw_getr (k0 := 41) kc_12 (ws_1 w) (Nat.le_of_ble_eq_true rfl) tw_1783 d_X12_wakeBeat_35 rfl (wr_1_41 w) ?_
      refine aw_iload_n (i := 3) rfl d_X12_wakeBeat_38 3 rfl ?_
      obtain ⟨b26, k⟩ := k
      refine aw_iald (ws_230 w) b26 d_X12_wakeBeat_39 ?_
      refine aw_Vi 1 [.int x1, .int (h_i h 230 (((150 * (h_i h 212 x1.toNatClampNeg)) + (h_i h 213 x1.toNatClampNeg)) : Int32).toNatClampNeg)] [] d_X12_wakeBeat_40 (cV_X12_comes (d + 1) 0 0) kc_12 (ws_1 w) tw_2356 rfl (rr0 (Nat.le_of_ble_eq_true rfl) (Nat.le_of_ble_eq_true rfl)) (Nat.le_of_ble_eq_true rfl) xs0 k (fun r29 h27 kk => ?_)
      obtain ⟨w28, k⟩ := kk
      refine aw_if_eq (tgt := 62) d_X12_wakeBeat_43 rfl (fun c30 => ?_) (fun c30 => ?_)
      · have k := k.1 c30
        refine aw_aload_n (i := 0) rfl d_X12_wakeBeat_62 0 rfl ?_
        refine aw_getr (k0 := 17) kc_12 (ws_1 w28) (Nat.le_of_ble_eq_true rfl) tw_1759 d_X12_wakeBeat_63 rfl (wr_1_17 w28) ?_
        refine aw_iload_n (i := 1) rfl d_X12_wakeBeat_66 1 rfl ?_
        refine aw_dup2 d_X12_wakeBeat_67 ⟨rfl, rfl⟩ ?_
        obtain ⟨b31, k⟩ := k
        refine aw_iald (ws_213 w28) b31 d_X12_wakeBeat_68 ?_
        refine aw_iconst (v := 1) d_X12_wakeBeat_69 ic_1 ?_
        refine aw_iadd d_X12_wakeBeat_70 ?_
        obtain ⟨b32, k⟩ := k
        refine aw_iast (ws_213 w28) b32 d_X12_wakeBeat_71 ?_
        refine aw_aload_n (i := 0) rfl d_X12_wakeBeat_72 0 rfl ?_
        refine aw_iload_n (i := 1) rfl d_X12_wakeBeat_73 1 rfl ?_
        refine aw_Vv 1 [.int x1] [] d_X12_wakeBeat_74 (cV_X12_goOn (d + 3) 0 0) kc_12 (ws_1 w28) tw_2336 rfl (rr0 (Nat.le_of_ble_eq_true rfl) (Nat.le_of_ble_eq_true rfl)) (Nat.le_of_ble_eq_true rfl) xs0 k (fun h33 kk => ?_)
        obtain ⟨w34, k⟩ := kk
        exact aw_vret rfl d_X12_wakeBeat_77 ⟨Nat.le_refl _, Nat.le_refl _⟩ ⟨rfl, k⟩
      · have k := k.2 c30
        exact aw_vret rfl d_X12_wakeBeat_46 ⟨Nat.le_refl _, Nat.le_refl _⟩ ⟨rfl, k⟩
theorem t_X12_wake (d : Nat) (h : Hp_) (w : Wf h) (x1 : Int32) (K : Hp_ → Prop) (k : vp_in x1 12 ∧ (((h_i h 211 x1.toNatClampNeg) = (h_i h 1 0) → vp_in x1 12 ∧ (((h_i h 210 x1.toNatClampNeg) = (-1) → AW (m_X12_wake (d + 9) 0 0) 0 0 29 [(0, .ref 1), (1, .int x1)] [.int 0] h (kV K)) ∧ (¬ (h_i h 210 x1.toNatClampNeg) = (-1) → AW (m_X12_wake (d + 9) 0 0) 0 0 29 [(0, .ref 1), (1, .int x1)] [.int 1] h (kV K)))) ∧ (¬ (h_i h 211 x1.toNatClampNeg) = (h_i h 1 0) → K h))) : Cv (m_X12_wake (d + 9) 0 0) [.ref 1, .int x1] h K := by
  refine Ct.of (fun _ _ _ => trivial) rfl (Nat.le_of_ble_eq_true rfl) ?_
  show AW (m_X12_wake (d + 9) 0 0) 0 0 0 [(0, .ref 1), (1, .int x1)] [] h (kV K)
  refine aw_aload_n (i := 0) rfl d_X12_wake_0 0 rfl ?_
  refine aw_getr (k0 := 15) kc_12 (ws_1 w) (Nat.le_of_ble_eq_true rfl) tw_1757 d_X12_wake_1 rfl (wr_1_15 w) ?_
  refine aw_iload_n (i := 1) rfl d_X12_wake_4 1 rfl ?_
  obtain ⟨b1, k⟩ := k
  refine aw_iald (ws_211 w) b1 d_X12_wake_5 ?_
  refine aw_aload_n (i := 0) rfl d_X12_wake_6 0 rfl ?_
  refine aw_geti (k0 := 0) kc_12 (ws_1 w) (Nat.le_of_ble_eq_true rfl) tw_1742 d_X12_wake_7 rfl ?_
  refine aw_icmp_eq (tgt := 14) d_X12_wake_10 rfl (fun c2 => ?_) (fun c2 => ?_)
  · have k := k.1 c2
    refine aw_aload_n (i := 0) rfl d_X12_wake_14 0 rfl ?_
    refine aw_getr (k0 := 14) kc_12 (ws_1 w) (Nat.le_of_ble_eq_true rfl) tw_1756 d_X12_wake_15 rfl (wr_1_14 w) ?_
    refine aw_iload_n (i := 1) rfl d_X12_wake_18 1 rfl ?_
    obtain ⟨b3, k⟩ := k
    refine aw_iald (ws_210 w) b3 d_X12_wake_19 ?_
    refine aw_iconst (v := (-1)) d_X12_wake_20 ic_m1 ?_
    refine aw_icmp_eq (tgt := 28) d_X12_wake_21 rfl (fun c4 => ?_) (fun c4 => ?_)
    · have k := k.1 c4
      refine aw_iconst (v := 0) d_X12_wake_28 ic_0 ?_
      exact k
    · have k := k.2 c4
      refine aw_iconst (v := 1) d_X12_wake_24 ic_1 ?_
      refine aw_goto (tgt := 29) d_X12_wake_25 rfl ?_
      exact k
  · have k := k.2 c2
    exact aw_vret rfl d_X12_wake_13 ⟨Nat.le_refl _, Nat.le_refl _⟩ ⟨rfl, k⟩
theorem t_X12_wake_29 (d : Nat) (h : Hp_) (w : Wf h) (x1 : Int32) (s0 : Int32) (K : Hp_ → Prop) (k : (s0 = 0 → vp_in x1 12 ∧ (vp_in x1 12 ∧ ((¬ (h_i h 208 x1.toNatClampNeg) = 2 → vp_in x1 12 ∧ ((¬ (h_i h 208 x1.toNatClampNeg) = 3 → vp_in x1 12 ∧ ((¬ (h_i h 208 x1.toNatClampNeg) = 1 → K (h_im h 211 x1.toNatClampNeg (-1))) ∧ ((h_i h 208 x1.toNatClampNeg) = 1 → Cv (m_X12_wakeBeat (d + 8) 0 0) [.ref 1, .int x1, .int s0] (h_im h 211 x1.toNatClampNeg (-1)) (fun h13 => Wf h13 ∧ (K h13))))) ∧ ((h_i h 208 x1.toNatClampNeg) = 3 → (¬ s0 = 0 → vp_in x1 12 ∧ (vp_in x1 12 ∧ ((¬ (h_i h 209 x1.toNatClampNeg) = (h_i h 218 x1.toNatClampNeg) → vp_in x1 12 ∧ (Cv (m_X12_goDrawn (d + 4) 0 0) [.ref 1, .int x1] (h_im (h_im h 211 x1.toNatClampNeg (-1)) 248 x1.toNatClampNeg (vp_nar .boolean 1)) (fun h21 => Wf h21 ∧ (K h21)))) ∧ ((h_i h 209 x1.toNatClampNeg) = (h_i h 218 x1.toNatClampNeg) → vp_in x1 12 ∧ (((h_i h 248 x1.toNatClampNeg) = 0 → vp_in x1 12 ∧ (Cv (m_X12_goDrawn (d + 4) 0 0) [.ref 1, .int x1] (h_im (h_im h 211 x1.toNatClampNeg (-1)) 248 x1.toNatClampNeg (vp_nar .boolean 1)) (fun h27 => Wf h27 ∧ (K h27)))) ∧ (¬ (h_i h 248 x1.toNatClampNeg) = 0 → Cv (m_X12_stay (d + 3) 0 0) [.ref 1, .int x1] (h_im h 211 x1.toNatClampNeg (-1)) (fun h30 => Wf h30 ∧ (K h30)))))))) ∧ (s0 = 0 → Cv (m_X12_goHome (d + 2) 0 0) [.ref 1, .int x1] (h_im h 211 x1.toNatClampNeg (-1)) (fun h33 => Wf h33 ∧ (K h33)))))) ∧ ((h_i h 208 x1.toNatClampNeg) = 2 → Cv (m_X12_free (d + 0) 0 0) [.ref 1, .int x1] (h_im h 211 x1.toNatClampNeg (-1)) (fun h36 => Wf h36 ∧ (K h36)))))) ∧ (¬ s0 = 0 → vp_in x1 12 ∧ (vp_in x1 12 ∧ (vp_in x1 12 ∧ (vp_in x1 12 ∧ (vp_in x1 12 ∧ ((¬ (h_i h 208 x1.toNatClampNeg) = 2 → vp_in x1 12 ∧ ((¬ (h_i h 208 x1.toNatClampNeg) = 3 → vp_in x1 12 ∧ ((¬ (h_i h 208 x1.toNatClampNeg) = 1 → K (h_im (h_im (h_im h 209 x1.toNatClampNeg (h_i h 210 x1.toNatClampNeg)) 210 x1.toNatClampNeg (-1)) 211 x1.toNatClampNeg (-1))) ∧ ((h_i h 208 x1.toNatClampNeg) = 1 → Cv (m_X12_wakeBeat (d + 8) 0 0) [.ref 1, .int x1, .int s0] (h_im (h_im (h_im h 209 x1.toNatClampNeg (h_i h 210 x1.toNatClampNeg)) 210 x1.toNatClampNeg (-1)) 211 x1.toNatClampNeg (-1)) (fun h49 => Wf h49 ∧ (K h49))))) ∧ ((h_i h 208 x1.toNatClampNeg) = 3 → (¬ s0 = 0 → vp_in x1 12 ∧ (vp_in x1 12 ∧ ((¬ (h_i h 210 x1.toNatClampNeg) = (h_i h 218 x1.toNatClampNeg) → vp_in x1 12 ∧ (Cv (m_X12_goDrawn (d + 4) 0 0) [.ref 1, .int x1] (h_im (h_im (h_im (h_im h 209 x1.toNatClampNeg (h_i h 210 x1.toNatClampNeg)) 210 x1.toNatClampNeg (-1)) 211 x1.toNatClampNeg (-1)) 248 x1.toNatClampNeg (vp_nar .boolean 1)) (fun h57 => Wf h57 ∧ (K h57)))) ∧ ((h_i h 210 x1.toNatClampNeg) = (h_i h 218 x1.toNatClampNeg) → vp_in x1 12 ∧ (((h_i h 248 x1.toNatClampNeg) = 0 → vp_in x1 12 ∧ (Cv (m_X12_goDrawn (d + 4) 0 0) [.ref 1, .int x1] (h_im (h_im (h_im (h_im h 209 x1.toNatClampNeg (h_i h 210 x1.toNatClampNeg)) 210 x1.toNatClampNeg (-1)) 211 x1.toNatClampNeg (-1)) 248 x1.toNatClampNeg (vp_nar .boolean 1)) (fun h63 => Wf h63 ∧ (K h63)))) ∧ (¬ (h_i h 248 x1.toNatClampNeg) = 0 → Cv (m_X12_stay (d + 3) 0 0) [.ref 1, .int x1] (h_im (h_im (h_im h 209 x1.toNatClampNeg (h_i h 210 x1.toNatClampNeg)) 210 x1.toNatClampNeg (-1)) 211 x1.toNatClampNeg (-1)) (fun h66 => Wf h66 ∧ (K h66)))))))) ∧ (s0 = 0 → Cv (m_X12_goHome (d + 2) 0 0) [.ref 1, .int x1] (h_im (h_im (h_im h 209 x1.toNatClampNeg (h_i h 210 x1.toNatClampNeg)) 210 x1.toNatClampNeg (-1)) 211 x1.toNatClampNeg (-1)) (fun h69 => Wf h69 ∧ (K h69)))))) ∧ ((h_i h 208 x1.toNatClampNeg) = 2 → Cv (m_X12_free (d + 0) 0 0) [.ref 1, .int x1] (h_im (h_im (h_im h 209 x1.toNatClampNeg (h_i h 210 x1.toNatClampNeg)) 210 x1.toNatClampNeg (-1)) 211 x1.toNatClampNeg (-1)) (fun h72 => Wf h72 ∧ (K h72)))))))))) : AW (m_X12_wake (d + 9) 0 0) 0 0 29 [(0, .ref 1), (1, .int x1)] [.int s0] h (kV K) := by
  refine aw_istore_n (i := 2) rfl [(0, .ref 1), (1, .int x1), (2, .int s0)] d_X12_wake_29 (Nat.le_of_ble_eq_true rfl) rfl rfl ?_
  refine aw_iload_n (i := 2) rfl d_X12_wake_30 2 rfl ?_
  refine aw_if_eq (tgt := 53) d_X12_wake_31 rfl (fun c5 => ?_) (fun c5 => ?_)
  · have k := k.1 c5
    refine aw_aload_n (i := 0) rfl d_X12_wake_53 0 rfl ?_
    refine aw_getr (k0 := 15) kc_12 (ws_1 w) (Nat.le_of_ble_eq_true rfl) tw_1757 d_X12_wake_54 rfl (wr_1_15 w) ?_
    refine aw_iload_n (i := 1) rfl d_X12_wake_57 1 rfl ?_
    refine aw_iconst (v := (-1)) d_X12_wake_58 ic_m1 ?_
    obtain ⟨b6, k⟩ := k
    refine aw_iast (ws_211 w) b6 d_X12_wake_59 ?_
    refine aw_aload_n (i := 0) rfl d_X12_wake_60 0 rfl ?_
    refine aw_getr (k0 := 12) kc_12 (ws_1 w) (Nat.le_of_ble_eq_true rfl) tw_1754 d_X12_wake_61 rfl (wr_1_12 w) ?_
    refine aw_iload_n (i := 1) rfl d_X12_wake_64 1 rfl ?_
    obtain ⟨b7, k⟩ := k
    refine aw_iald (ws_208 w) b7 d_X12_wake_65 ?_
    refine aw_vi (v2 := (h_i h 208 x1.toNatClampNeg)) (rfl) ?_
    refine aw_iconst (v := 2) d_X12_wake_66 ic_2 ?_
    refine aw_icmp_ne (tgt := 78) d_X12_wake_67 rfl (fun c8 => ?_) (fun c8 => ?_)
    · have k := k.1 c8
      refine aw_aload_n (i := 0) rfl d_X12_wake_78 0 rfl ?_
      refine aw_getr (k0 := 12) kc_12 (ws_1 w) (Nat.le_of_ble_eq_true rfl) tw_1754 d_X12_wake_79 rfl (wr_1_12 w) ?_
      refine aw_iload_n (i := 1) rfl d_X12_wake_82 1 rfl ?_
      obtain ⟨b9, k⟩ := k
      refine aw_iald (ws_208 w) b9 d_X12_wake_83 ?_
      refine aw_vi (v2 := (h_i h 208 x1.toNatClampNeg)) (rfl) ?_
      refine aw_iconst (v := 3) d_X12_wake_84 ic_3 ?_
      refine aw_icmp_ne (tgt := 147) d_X12_wake_85 rfl (fun c10 => ?_) (fun c10 => ?_)
      · have k := k.1 c10
        refine aw_aload_n (i := 0) rfl d_X12_wake_147 0 rfl ?_
        refine aw_getr (k0 := 12) kc_12 (ws_1 w) (Nat.le_of_ble_eq_true rfl) tw_1754 d_X12_wake_148 rfl (wr_1_12 w) ?_
        refine aw_iload_n (i := 1) rfl d_X12_wake_151 1 rfl ?_
        obtain ⟨b11, k⟩ := k
        refine aw_iald (ws_208 w) b11 d_X12_wake_152 ?_
        refine aw_vi (v2 := (h_i h 208 x1.toNatClampNeg)) (rfl) ?_
        refine aw_iconst (v := 1) d_X12_wake_153 ic_1 ?_
        refine aw_icmp_ne (tgt := 163) d_X12_wake_154 rfl (fun c12 => ?_) (fun c12 => ?_)
        · have k := k.1 c12
          exact aw_vret rfl d_X12_wake_163 ⟨Nat.le_refl _, Nat.le_refl _⟩ ⟨rfl, k⟩
        · have k := k.2 c12
          refine aw_aload_n (i := 0) rfl d_X12_wake_157 0 rfl ?_
          refine aw_iload_n (i := 1) rfl d_X12_wake_158 1 rfl ?_
          refine aw_iload_n (i := 2) rfl d_X12_wake_159 2 rfl ?_
          refine aw_Vv 1 [.int x1, .int s0] [] d_X12_wake_160 (cV_X12_wakeBeat (d + 8) 0 0) kc_12 (ws_1 w) tw_2388 rfl (rr0 (Nat.le_of_ble_eq_true rfl) (Nat.le_of_ble_eq_true rfl)) (Nat.le_of_ble_eq_true rfl) xs0 k (fun h13 kk => ?_)
          obtain ⟨w14, k⟩ := kk
          exact aw_vret rfl d_X12_wake_163 ⟨Nat.le_refl _, Nat.le_refl _⟩ ⟨rfl, k⟩
      · have k := k.2 c10
        refine aw_iload_n (i := 2) rfl d_X12_wake_88 2 rfl ?_
        refine aw_if_ne (tgt := 100) d_X12_wake_89 rfl (fun c16 => ?_) (fun c16 => ?_)
        · have k := k.1 c16
          refine aw_aload_n (i := 0) rfl d_X12_wake_100 0 rfl ?_
          refine aw_getr (k0 := 13) kc_12 (ws_1 w) (Nat.le_of_ble_eq_true rfl) tw_1755 d_X12_wake_101 rfl (wr_1_13 w) ?_
          refine aw_iload_n (i := 1) rfl d_X12_wake_104 1 rfl ?_
          obtain ⟨b17, k⟩ := k
          refine aw_iald (ws_209 w) b17 d_X12_wake_105 ?_
          refine aw_vi (v2 := (h_i h 209 x1.toNatClampNeg)) (rfl) ?_
          refine aw_aload_n (i := 0) rfl d_X12_wake_106 0 rfl ?_
          refine aw_getr (k0 := 22) kc_12 (ws_1 w) (Nat.le_of_ble_eq_true rfl) tw_1764 d_X12_wake_107 rfl (wr_1_22 w) ?_
          refine aw_iload_n (i := 1) rfl d_X12_wake_110 1 rfl ?_
          obtain ⟨b18, k⟩ := k
          refine aw_iald (ws_218 w) b18 d_X12_wake_111 ?_
          refine aw_vi (v2 := (h_i h 218 x1.toNatClampNeg)) (rfl) ?_
          refine aw_icmp_ne (tgt := 132) d_X12_wake_112 rfl (fun c19 => ?_) (fun c19 => ?_)
          · have k := k.1 c19
            refine aw_aload_n (i := 0) rfl d_X12_wake_132 0 rfl ?_
            refine aw_getr (k0 := 65) kc_12 (ws_1 w) (Nat.le_of_ble_eq_true rfl) tw_1807 d_X12_wake_133 rfl (wr_1_65 w) ?_
            refine aw_iload_n (i := 1) rfl d_X12_wake_136 1 rfl ?_
            refine aw_iconst (v := 1) d_X12_wake_137 ic_1 ?_
            obtain ⟨b20, k⟩ := k
            refine aw_zast (ws_248 w) b20 d_X12_wake_138 ?_
            refine aw_aload_n (i := 0) rfl d_X12_wake_139 0 rfl ?_
            refine aw_iload_n (i := 1) rfl d_X12_wake_140 1 rfl ?_
            refine aw_Vv 1 [.int x1] [] d_X12_wake_141 (cV_X12_goDrawn (d + 4) 0 0) kc_12 (ws_1 w) tw_2368 rfl (rr0 (Nat.le_of_ble_eq_true rfl) (Nat.le_of_ble_eq_true rfl)) (Nat.le_of_ble_eq_true rfl) xs0 k (fun h21 kk => ?_)
            obtain ⟨w22, k⟩ := kk
            refine aw_goto (tgt := 163) d_X12_wake_144 rfl ?_
            exact aw_vret rfl d_X12_wake_163 ⟨Nat.le_refl _, Nat.le_refl _⟩ ⟨rfl, k⟩
          · have k := k.2 c19
            refine aw_aload_n (i := 0) rfl d_X12_wake_115 0 rfl ?_
            refine aw_getr (k0 := 65) kc_12 (ws_1 w) (Nat.le_of_ble_eq_true rfl) tw_1807 d_X12_wake_116 rfl (wr_1_65 w) ?_
            refine aw_iload_n (i := 1) rfl d_X12_wake_119 1 rfl ?_
            obtain ⟨b24, k⟩ := k
            refine aw_zald (ws_248 w) b24 d_X12_wake_120 ?_
            refine aw_vi (v2 := (h_i h 248 x1.toNatClampNeg)) (rfl) ?_
            refine aw_if_eq (tgt := 132) d_X12_wake_121 rfl (fun c25 => ?_) (fun c25 => ?_)
            · have k := k.1 c25
              refine aw_aload_n (i := 0) rfl d_X12_wake_132 0 rfl ?_
              refine aw_getr (k0 := 65) kc_12 (ws_1 w) (Nat.le_of_ble_eq_true rfl) tw_1807 d_X12_wake_133 rfl (wr_1_65 w) ?_
              refine aw_iload_n (i := 1) rfl d_X12_wake_136 1 rfl ?_
              refine aw_iconst (v := 1) d_X12_wake_137 ic_1 ?_
              obtain ⟨b26, k⟩ := k
              refine aw_zast (ws_248 w) b26 d_X12_wake_138 ?_
              refine aw_aload_n (i := 0) rfl d_X12_wake_139 0 rfl ?_
              refine aw_iload_n (i := 1) rfl d_X12_wake_140 1 rfl ?_
              refine aw_Vv 1 [.int x1] [] d_X12_wake_141 (cV_X12_goDrawn (d + 4) 0 0) kc_12 (ws_1 w) tw_2368 rfl (rr0 (Nat.le_of_ble_eq_true rfl) (Nat.le_of_ble_eq_true rfl)) (Nat.le_of_ble_eq_true rfl) xs0 k (fun h27 kk => ?_)
              obtain ⟨w28, k⟩ := kk
              refine aw_goto (tgt := 163) d_X12_wake_144 rfl ?_
              exact aw_vret rfl d_X12_wake_163 ⟨Nat.le_refl _, Nat.le_refl _⟩ ⟨rfl, k⟩
            · have k := k.2 c25
              refine aw_aload_n (i := 0) rfl d_X12_wake_124 0 rfl ?_
              refine aw_iload_n (i := 1) rfl d_X12_wake_125 1 rfl ?_
              refine aw_Vv 1 [.int x1] [] d_X12_wake_126 (cV_X12_stay (d + 3) 0 0) kc_12 (ws_1 w) tw_2372 rfl (rr0 (Nat.le_of_ble_eq_true rfl) (Nat.le_of_ble_eq_true rfl)) (Nat.le_of_ble_eq_true rfl) xs0 k (fun h30 kk => ?_)
              obtain ⟨w31, k⟩ := kk
              refine aw_goto (tgt := 163) d_X12_wake_129 rfl ?_
              exact aw_vret rfl d_X12_wake_163 ⟨Nat.le_refl _, Nat.le_refl _⟩ ⟨rfl, k⟩
        · have k := k.2 c16
          refine aw_aload_n (i := 0) rfl d_X12_wake_92 0 rfl ?_
          refine aw_iload_n (i := 1) rfl d_X12_wake_93 1 rfl ?_
          refine aw_Vv 1 [.int x1] [] d_X12_wake_94 (cV_X12_goHome (d + 2) 0 0) kc_12 (ws_1 w) tw_2340 rfl (rr0 (Nat.le_of_ble_eq_true rfl) (Nat.le_of_ble_eq_true rfl)) (Nat.le_of_ble_eq_true rfl) xs0 k (fun h33 kk => ?_)
          obtain ⟨w34, k⟩ := kk
          refine aw_goto (tgt := 163) d_X12_wake_97 rfl ?_
          exact aw_vret rfl d_X12_wake_163 ⟨Nat.le_refl _, Nat.le_refl _⟩ ⟨rfl, k⟩
    · have k := k.2 c8
      refine aw_aload_n (i := 0) rfl d_X12_wake_70 0 rfl ?_
      refine aw_iload_n (i := 1) rfl d_X12_wake_71 1 rfl ?_
      refine aw_Vv 1 [.int x1] [] d_X12_wake_72 (cV_X12_free (d + 0) 0 0) kc_12 (ws_1 w) tw_2344 rfl (rr0 (Nat.le_of_ble_eq_true rfl) (Nat.le_of_ble_eq_true rfl)) (Nat.le_of_ble_eq_true rfl) xs0 k (fun h36 kk => ?_)
      obtain ⟨w37, k⟩ := kk
      refine aw_goto (tgt := 163) d_X12_wake_75 rfl ?_
      exact aw_vret rfl d_X12_wake_163 ⟨Nat.le_refl _, Nat.le_refl _⟩ ⟨rfl, k⟩
  · have k := k.2 c5
    refine aw_aload_n (i := 0) rfl d_X12_wake_34 0 rfl ?_
    refine aw_getr (k0 := 13) kc_12 (ws_1 w) (Nat.le_of_ble_eq_true rfl) tw_1755 d_X12_wake_35 rfl (wr_1_13 w) ?_
    refine aw_iload_n (i := 1) rfl d_X12_wake_38 1 rfl ?_
    refine aw_aload_n (i := 0) rfl d_X12_wake_39 0 rfl ?_
    refine aw_getr (k0 := 14) kc_12 (ws_1 w) (Nat.le_of_ble_eq_true rfl) tw_1756 d_X12_wake_40 rfl (wr_1_14 w) ?_
    refine aw_iload_n (i := 1) rfl d_X12_wake_43 1 rfl ?_
    obtain ⟨b39, k⟩ := k
    refine aw_iald (ws_210 w) b39 d_X12_wake_44 ?_
    obtain ⟨b40, k⟩ := k
    refine aw_iast (ws_209 w) b40 d_X12_wake_45 ?_
    refine aw_aload_n (i := 0) rfl d_X12_wake_46 0 rfl ?_
    refine aw_getr (k0 := 14) kc_12 (ws_1 w) (Nat.le_of_ble_eq_true rfl) tw_1756 d_X12_wake_47 rfl (wr_1_14 w) ?_
    refine aw_iload_n (i := 1) rfl d_X12_wake_50 1 rfl ?_
    refine aw_iconst (v := (-1)) d_X12_wake_51 ic_m1 ?_
    obtain ⟨b41, k⟩ := k
    refine aw_iast (ws_210 w) b41 d_X12_wake_52 ?_
    refine aw_aload_n (i := 0) rfl d_X12_wake_53 0 rfl ?_
    refine aw_getr (k0 := 15) kc_12 (ws_1 w) (Nat.le_of_ble_eq_true rfl) tw_1757 d_X12_wake_54 rfl (wr_1_15 w) ?_
    refine aw_iload_n (i := 1) rfl d_X12_wake_57 1 rfl ?_
    refine aw_iconst (v := (-1)) d_X12_wake_58 ic_m1 ?_
    obtain ⟨b42, k⟩ := k
    refine aw_iast (ws_211 w) b42 d_X12_wake_59 ?_
    refine aw_aload_n (i := 0) rfl d_X12_wake_60 0 rfl ?_
    refine aw_getr (k0 := 12) kc_12 (ws_1 w) (Nat.le_of_ble_eq_true rfl) tw_1754 d_X12_wake_61 rfl (wr_1_12 w) ?_
    refine aw_iload_n (i := 1) rfl d_X12_wake_64 1 rfl ?_
    obtain ⟨b43, k⟩ := k
    refine aw_iald (ws_208 w) b43 d_X12_wake_65 ?_
    refine aw_vi (v2 := (h_i h 208 x1.toNatClampNeg)) (rfl) ?_
    refine aw_iconst (v := 2) d_X12_wake_66 ic_2 ?_
    refine aw_icmp_ne (tgt := 78) d_X12_wake_67 rfl (fun c44 => ?_) (fun c44 => ?_)
    · have k := k.1 c44
      refine aw_aload_n (i := 0) rfl d_X12_wake_78 0 rfl ?_
      refine aw_getr (k0 := 12) kc_12 (ws_1 w) (Nat.le_of_ble_eq_true rfl) tw_1754 d_X12_wake_79 rfl (wr_1_12 w) ?_
      refine aw_iload_n (i := 1) rfl d_X12_wake_82 1 rfl ?_
      obtain ⟨b45, k⟩ := k
      refine aw_iald (ws_208 w) b45 d_X12_wake_83 ?_
      refine aw_vi (v2 := (h_i h 208 x1.toNatClampNeg)) (rfl) ?_
      refine aw_iconst (v := 3) d_X12_wake_84 ic_3 ?_
      refine aw_icmp_ne (tgt := 147) d_X12_wake_85 rfl (fun c46 => ?_) (fun c46 => ?_)
      · have k := k.1 c46
        refine aw_aload_n (i := 0) rfl d_X12_wake_147 0 rfl ?_
        refine aw_getr (k0 := 12) kc_12 (ws_1 w) (Nat.le_of_ble_eq_true rfl) tw_1754 d_X12_wake_148 rfl (wr_1_12 w) ?_
        refine aw_iload_n (i := 1) rfl d_X12_wake_151 1 rfl ?_
        obtain ⟨b47, k⟩ := k
        refine aw_iald (ws_208 w) b47 d_X12_wake_152 ?_
        refine aw_vi (v2 := (h_i h 208 x1.toNatClampNeg)) (rfl) ?_
        refine aw_iconst (v := 1) d_X12_wake_153 ic_1 ?_
        refine aw_icmp_ne (tgt := 163) d_X12_wake_154 rfl (fun c48 => ?_) (fun c48 => ?_)
        · have k := k.1 c48
          exact aw_vret rfl d_X12_wake_163 ⟨Nat.le_refl _, Nat.le_refl _⟩ ⟨rfl, k⟩
        · have k := k.2 c48
          refine aw_aload_n (i := 0) rfl d_X12_wake_157 0 rfl ?_
          refine aw_iload_n (i := 1) rfl d_X12_wake_158 1 rfl ?_
          refine aw_iload_n (i := 2) rfl d_X12_wake_159 2 rfl ?_
          refine aw_Vv 1 [.int x1, .int s0] [] d_X12_wake_160 (cV_X12_wakeBeat (d + 8) 0 0) kc_12 (ws_1 w) tw_2388 rfl (rr0 (Nat.le_of_ble_eq_true rfl) (Nat.le_of_ble_eq_true rfl)) (Nat.le_of_ble_eq_true rfl) xs0 k (fun h49 kk => ?_)
          obtain ⟨w50, k⟩ := kk
          exact aw_vret rfl d_X12_wake_163 ⟨Nat.le_refl _, Nat.le_refl _⟩ ⟨rfl, k⟩
      · have k := k.2 c46
        refine aw_iload_n (i := 2) rfl d_X12_wake_88 2 rfl ?_
        refine aw_if_ne (tgt := 100) d_X12_wake_89 rfl (fun c52 => ?_) (fun c52 => ?_)
        · have k := k.1 c52
          refine aw_aload_n (i := 0) rfl d_X12_wake_100 0 rfl ?_
          refine aw_getr (k0 := 13) kc_12 (ws_1 w) (Nat.le_of_ble_eq_true rfl) tw_1755 d_X12_wake_101 rfl (wr_1_13 w) ?_
          refine aw_iload_n (i := 1) rfl d_X12_wake_104 1 rfl ?_
          obtain ⟨b53, k⟩ := k
          refine aw_iald (ws_209 w) b53 d_X12_wake_105 ?_
          refine aw_vi (v2 := (h_i h 210 x1.toNatClampNeg)) (hi_s h 209 x1.toNatClampNeg (h_i h 210 x1.toNatClampNeg)) ?_
          refine aw_aload_n (i := 0) rfl d_X12_wake_106 0 rfl ?_
          refine aw_getr (k0 := 22) kc_12 (ws_1 w) (Nat.le_of_ble_eq_true rfl) tw_1764 d_X12_wake_107 rfl (wr_1_22 w) ?_
          refine aw_iload_n (i := 1) rfl d_X12_wake_110 1 rfl ?_
          obtain ⟨b54, k⟩ := k
          refine aw_iald (ws_218 w) b54 d_X12_wake_111 ?_
          refine aw_vi (v2 := (h_i h 218 x1.toNatClampNeg)) (rfl) ?_
          refine aw_icmp_ne (tgt := 132) d_X12_wake_112 rfl (fun c55 => ?_) (fun c55 => ?_)
          · have k := k.1 c55
            refine aw_aload_n (i := 0) rfl d_X12_wake_132 0 rfl ?_
            refine aw_getr (k0 := 65) kc_12 (ws_1 w) (Nat.le_of_ble_eq_true rfl) tw_1807 d_X12_wake_133 rfl (wr_1_65 w) ?_
            refine aw_iload_n (i := 1) rfl d_X12_wake_136 1 rfl ?_
            refine aw_iconst (v := 1) d_X12_wake_137 ic_1 ?_
            obtain ⟨b56, k⟩ := k
            refine aw_zast (ws_248 w) b56 d_X12_wake_138 ?_
            refine aw_aload_n (i := 0) rfl d_X12_wake_139 0 rfl ?_
            refine aw_iload_n (i := 1) rfl d_X12_wake_140 1 rfl ?_
            refine aw_Vv 1 [.int x1] [] d_X12_wake_141 (cV_X12_goDrawn (d + 4) 0 0) kc_12 (ws_1 w) tw_2368 rfl (rr0 (Nat.le_of_ble_eq_true rfl) (Nat.le_of_ble_eq_true rfl)) (Nat.le_of_ble_eq_true rfl) xs0 k (fun h57 kk => ?_)
            obtain ⟨w58, k⟩ := kk
            refine aw_goto (tgt := 163) d_X12_wake_144 rfl ?_
            exact aw_vret rfl d_X12_wake_163 ⟨Nat.le_refl _, Nat.le_refl _⟩ ⟨rfl, k⟩
          · have k := k.2 c55
            refine aw_aload_n (i := 0) rfl d_X12_wake_115 0 rfl ?_
            refine aw_getr (k0 := 65) kc_12 (ws_1 w) (Nat.le_of_ble_eq_true rfl) tw_1807 d_X12_wake_116 rfl (wr_1_65 w) ?_
            refine aw_iload_n (i := 1) rfl d_X12_wake_119 1 rfl ?_
            obtain ⟨b60, k⟩ := k
            refine aw_zald (ws_248 w) b60 d_X12_wake_120 ?_
            refine aw_vi (v2 := (h_i h 248 x1.toNatClampNeg)) (rfl) ?_
            refine aw_if_eq (tgt := 132) d_X12_wake_121 rfl (fun c61 => ?_) (fun c61 => ?_)
            · have k := k.1 c61
              refine aw_aload_n (i := 0) rfl d_X12_wake_132 0 rfl ?_
              refine aw_getr (k0 := 65) kc_12 (ws_1 w) (Nat.le_of_ble_eq_true rfl) tw_1807 d_X12_wake_133 rfl (wr_1_65 w) ?_
              refine aw_iload_n (i := 1) rfl d_X12_wake_136 1 rfl ?_
              refine aw_iconst (v := 1) d_X12_wake_137 ic_1 ?_
              obtain ⟨b62, k⟩ := k
              refine aw_zast (ws_248 w) b62 d_X12_wake_138 ?_
              refine aw_aload_n (i := 0) rfl d_X12_wake_139 0 rfl ?_
              refine aw_iload_n (i := 1) rfl d_X12_wake_140 1 rfl ?_
              refine aw_Vv 1 [.int x1] [] d_X12_wake_141 (cV_X12_goDrawn (d + 4) 0 0) kc_12 (ws_1 w) tw_2368 rfl (rr0 (Nat.le_of_ble_eq_true rfl) (Nat.le_of_ble_eq_true rfl)) (Nat.le_of_ble_eq_true rfl) xs0 k (fun h63 kk => ?_)
              obtain ⟨w64, k⟩ := kk
              refine aw_goto (tgt := 163) d_X12_wake_144 rfl ?_
              exact aw_vret rfl d_X12_wake_163 ⟨Nat.le_refl _, Nat.le_refl _⟩ ⟨rfl, k⟩
            · have k := k.2 c61
              refine aw_aload_n (i := 0) rfl d_X12_wake_124 0 rfl ?_
              refine aw_iload_n (i := 1) rfl d_X12_wake_125 1 rfl ?_
              refine aw_Vv 1 [.int x1] [] d_X12_wake_126 (cV_X12_stay (d + 3) 0 0) kc_12 (ws_1 w) tw_2372 rfl (rr0 (Nat.le_of_ble_eq_true rfl) (Nat.le_of_ble_eq_true rfl)) (Nat.le_of_ble_eq_true rfl) xs0 k (fun h66 kk => ?_)
              obtain ⟨w67, k⟩ := kk
              refine aw_goto (tgt := 163) d_X12_wake_129 rfl ?_
              exact aw_vret rfl d_X12_wake_163 ⟨Nat.le_refl _, Nat.le_refl _⟩ ⟨rfl, k⟩
        · have k := k.2 c52
          refine aw_aload_n (i := 0) rfl d_X12_wake_92 0 rfl ?_
          refine aw_iload_n (i := 1) rfl d_X12_wake_93 1 rfl ?_
          refine aw_Vv 1 [.int x1] [] d_X12_wake_94 (cV_X12_goHome (d + 2) 0 0) kc_12 (ws_1 w) tw_2340 rfl (rr0 (Nat.le_of_ble_eq_true rfl) (Nat.le_of_ble_eq_true rfl)) (Nat.le_of_ble_eq_true rfl) xs0 k (fun h69 kk => ?_)
          obtain ⟨w70, k⟩ := kk
          refine aw_goto (tgt := 163) d_X12_wake_97 rfl ?_
          exact aw_vret rfl d_X12_wake_163 ⟨Nat.le_refl _, Nat.le_refl _⟩ ⟨rfl, k⟩
    · have k := k.2 c44
      refine aw_aload_n (i := 0) rfl d_X12_wake_70 0 rfl ?_
      refine aw_iload_n (i := 1) rfl d_X12_wake_71 1 rfl ?_
      refine aw_Vv 1 [.int x1] [] d_X12_wake_72 (cV_X12_free (d + 0) 0 0) kc_12 (ws_1 w) tw_2344 rfl (rr0 (Nat.le_of_ble_eq_true rfl) (Nat.le_of_ble_eq_true rfl)) (Nat.le_of_ble_eq_true rfl) xs0 k (fun h72 kk => ?_)
      obtain ⟨w73, k⟩ := kk
      refine aw_goto (tgt := 163) d_X12_wake_75 rfl ?_
      exact aw_vret rfl d_X12_wake_163 ⟨Nat.le_refl _, Nat.le_refl _⟩ ⟨rfl, k⟩
theorem t_X12_tick (d : Nat) (h : Hp_) (w : Wf h) (x1 : Int32) (K : Int32 → Hp_ → Prop) (k : (¬ (0 ≤ x1 ∧ x1 ≤ 1500) → K (-1) h) ∧ ((0 ≤ x1 ∧ x1 ≤ 1500) → (((h_i h 1 0) + x1) ≤ 20000 → AW (m_X12_tick (d + 10) 0 0) 0 0 27 [(0, .ref 1), (1, .int x1), (2, .int 0)] [] h (kI K)) ∧ (¬ ((h_i h 1 0) + x1) ≤ 20000 → K (-1) h))) : Ci (m_X12_tick (d + 10) 0 0) [.ref 1, .int x1] h K := by
  refine Ct.of (fun _ _ _ => trivial) rfl (Nat.le_of_ble_eq_true rfl) ?_
  show AW (m_X12_tick (d + 10) 0 0) 0 0 0 [(0, .ref 1), (1, .int x1)] [] h (kI K)
  refine aw_iload_n (i := 1) rfl d_X12_tick_0 1 rfl ?_
  refine aw_iconst (v := 0) d_X12_tick_1 ic_0 ?_
  refine aw_sipush (v := 1500) d_X12_tick_2 is_1500 ?_
  refine aw_Si [.int x1, .int 0, .int 1500] [] d_X12_tick_5 (cS_X12_in (d + 0) 0 0) tw_2143 rfl (rr0 (Nat.le_of_ble_eq_true rfl) (Nat.le_of_ble_eq_true rfl)) (Nat.le_of_ble_eq_true rfl) xs0 (s_X12_in _ _ x1 0 1500) (fun _ _ kk => ?_)
  obtain ⟨e1, e2⟩ := kk
  rw [e1, e2]
  refine aw_ifb_eq (tgt := 23) d_X12_tick_8 rfl (fun c3 => ?_) (fun c3 => ?_)
  · have k := k.1 c3
    refine aw_iconst (v := (-1)) d_X12_tick_23 ic_m1 ?_
    exact aw_iret rfl d_X12_tick_24 ⟨Nat.le_refl _, Nat.le_refl _⟩ ⟨_, rfl, k⟩
  · have k := k.2 c3
    refine aw_aload_n (i := 0) rfl d_X12_tick_11 0 rfl ?_
    refine aw_geti (k0 := 0) kc_12 (ws_1 w) (Nat.le_of_ble_eq_true rfl) tw_1742 d_X12_tick_12 rfl ?_
    refine aw_iload_n (i := 1) rfl d_X12_tick_15 1 rfl ?_
    refine aw_iadd d_X12_tick_16 ?_
    refine aw_sipush (v := 20000) d_X12_tick_17 is_20000 ?_
    refine aw_icmp_le (tgt := 25) d_X12_tick_20 rfl (fun c4 => ?_) (fun c4 => ?_)
    · have k := k.1 c4
      refine aw_iconst (v := 0) d_X12_tick_25 ic_0 ?_
      refine aw_istore_n (i := 2) rfl [(0, .ref 1), (1, .int x1), (2, .int 0)] d_X12_tick_26 (Nat.le_of_ble_eq_true rfl) rfl rfl ?_
      exact k
    · have k := k.2 c4
      refine aw_iconst (v := (-1)) d_X12_tick_23 ic_m1 ?_
      exact aw_iret rfl d_X12_tick_24 ⟨Nat.le_refl _, Nat.le_refl _⟩ ⟨_, rfl, k⟩
theorem t_X12_tick_27 (d : Nat) (h : Hp_) (w : Wf h) (x1 : Int32) (x2 : Int32) (K : Int32 → Hp_ → Prop) (k : (x1 ≤ x2 → K (h_i h 1 0) h) ∧ (¬ x1 ≤ x2 → AW (m_X12_tick (d + 10) 0 0) 0 0 34 [(0, .ref 1), (1, .int x1), (2, .int x2), (3, .int 0)] [] h (kI K))) : AW (m_X12_tick (d + 10) 0 0) 0 0 27 [(0, .ref 1), (1, .int x1), (2, .int x2)] [] h (kI K) := by
  refine aw_iload_n (i := 2) rfl d_X12_tick_27 2 rfl ?_
  refine aw_iload_n (i := 1) rfl d_X12_tick_28 1 rfl ?_
  refine aw_icmp_ge (tgt := 107) d_X12_tick_29 rfl (fun c5 => ?_) (fun c5 => ?_)
  · have k := k.1 c5
    refine aw_aload_n (i := 0) rfl d_X12_tick_107 0 rfl ?_
    refine aw_geti (k0 := 0) kc_12 (ws_1 w) (Nat.le_of_ble_eq_true rfl) tw_1742 d_X12_tick_108 rfl ?_
    exact aw_iret rfl d_X12_tick_111 ⟨Nat.le_refl _, Nat.le_refl _⟩ ⟨_, rfl, k⟩
  · have k := k.2 c5
    refine aw_iconst (v := 0) d_X12_tick_32 ic_0 ?_
    refine aw_istore_n (i := 3) rfl [(0, .ref 1), (1, .int x1), (2, .int x2), (3, .int 0)] d_X12_tick_33 (Nat.le_of_ble_eq_true rfl) rfl rfl ?_
    exact k
theorem t_X12_tick_34 (d : Nat) (h : Hp_) (w : Wf h) (x1 : Int32) (x2 : Int32) (x3 : Int32) (K : Int32 → Hp_ → Prop) (k : ((h_i h 1 7) ≤ x3 → AW (m_X12_tick (d + 10) 0 0) 0 0 82 [(0, .ref 1), (1, .int x1), (2, .int x2), (3, .int 0)] [] (h_im h 1 0 ((h_i h 1 0) + 1)) (kI K)) ∧ (¬ (h_i h 1 7) ≤ x3 → vp_in x3 12 ∧ (vp_in ((20001 * x3) + (h_i h 1 0)) 240012 ∧ (AW (m_X12_tick (d + 10) 0 0) 0 0 34 [(0, .ref 1), (1, .int x1), (2, .int x2), (3, .int (x3 + 1))] [] (h_im h 220 (((20001 * x3) + (h_i h 1 0)) : Int32).toNatClampNeg (vp_nar .byte (((h_i h 209 x3.toNatClampNeg) : Int32).toInt8.toInt32))) (kI K))))) : AW (m_X12_tick (d + 10) 0 0) 0 0 34 [(0, .ref 1), (1, .int x1), (2, .int x2), (3, .int x3)] [] h (kI K) := by
  refine aw_iload_n (i := 3) rfl d_X12_tick_34 3 rfl ?_
  refine aw_aload_n (i := 0) rfl d_X12_tick_35 0 rfl ?_
  refine aw_geti (k0 := 7) kc_12 (ws_1 w) (Nat.le_of_ble_eq_true rfl) tw_1749 d_X12_tick_36 rfl ?_
  refine aw_icmp_ge (tgt := 70) d_X12_tick_39 rfl (fun c6 => ?_) (fun c6 => ?_)
  · have k := k.1 c6
    refine aw_aload_n (i := 0) rfl d_X12_tick_70 0 rfl ?_
    refine aw_dup d_X12_tick_71 rfl ?_
    refine aw_geti (k0 := 0) kc_12 (ws_1 w) (Nat.le_of_ble_eq_true rfl) tw_1742 d_X12_tick_72 rfl ?_
    refine aw_iconst (v := 1) d_X12_tick_75 ic_1 ?_
    refine aw_iadd d_X12_tick_76 ?_
    refine aw_puti (k0 := 0) kc_12 (ws_1 w) (Nat.le_of_ble_eq_true rfl) tw_1742 d_X12_tick_77 rfl rfl nf_i ?_
    refine aw_iconst (v := 0) d_X12_tick_80 ic_0 ?_
    refine aw_istore_n (i := 3) rfl [(0, .ref 1), (1, .int x1), (2, .int x2), (3, .int 0)] d_X12_tick_81 (Nat.le_of_ble_eq_true rfl) rfl rfl ?_
    exact k
  · have k := k.2 c6
    refine aw_aload_n (i := 0) rfl d_X12_tick_42 0 rfl ?_
    refine aw_getr (k0 := 24) kc_12 (ws_1 w) (Nat.le_of_ble_eq_true rfl) tw_1766 d_X12_tick_43 rfl (wr_1_24 w) ?_
    refine aw_sipush (v := 20001) d_X12_tick_46 is_20001 ?_
    refine aw_iload_n (i := 3) rfl d_X12_tick_49 3 rfl ?_
    refine aw_imul d_X12_tick_50 ?_
    refine aw_aload_n (i := 0) rfl d_X12_tick_51 0 rfl ?_
    refine aw_geti (k0 := 0) kc_12 (ws_1 w) (Nat.le_of_ble_eq_true rfl) tw_1742 d_X12_tick_52 rfl ?_
    refine aw_iadd d_X12_tick_55 ?_
    refine aw_aload_n (i := 0) rfl d_X12_tick_56 0 rfl ?_
    refine aw_getr (k0 := 13) kc_12 (ws_1 w) (Nat.le_of_ble_eq_true rfl) tw_1755 d_X12_tick_57 rfl (wr_1_13 w) ?_
    refine aw_iload_n (i := 3) rfl d_X12_tick_60 3 rfl ?_
    obtain ⟨b7, k⟩ := k
    refine aw_iald (ws_209 w) b7 d_X12_tick_61 ?_
    refine aw_i2b d_X12_tick_62 ?_
    obtain ⟨b8, k⟩ := k
    refine aw_bast (ws_220 w) b8 d_X12_tick_63 ?_
    refine aw_iinc (v := (x3 + 1)) [(0, .ref 1), (1, .int x1), (2, .int x2), (3, .int (x3 + 1))] d_X12_tick_64 3 rfl rfl (Nat.le_of_ble_eq_true rfl) rfl rfl ?_
    refine aw_goto (tgt := 34) d_X12_tick_67 rfl ?_
    exact k
theorem t_X12_tick_82 (d : Nat) (h : Hp_) (w : Wf h) (x1 : Int32) (x2 : Int32) (x3 : Int32) (K : Int32 → Hp_ → Prop) (k : ((h_i h 1 7) ≤ x3 → AW (m_X12_tick (d + 10) 0 0) 0 0 27 [(0, .ref 1), (1, .int x1), (2, .int (x2 + 1))] [] h (kI K)) ∧ (¬ (h_i h 1 7) ≤ x3 → Cv (m_X12_wake (d + 9) 0 0) [.ref 1, .int x3] h (fun h10 => Wf h10 ∧ (AW (m_X12_tick (d + 10) 0 0) 0 0 82 [(0, .ref 1), (1, .int x1), (2, .int x2), (3, .int (x3 + 1))] [] h10 (kI K))))) : AW (m_X12_tick (d + 10) 0 0) 0 0 82 [(0, .ref 1), (1, .int x1), (2, .int x2), (3, .int x3)] [] h (kI K) := by
  refine aw_iload_n (i := 3) rfl d_X12_tick_82 3 rfl ?_
  refine aw_aload_n (i := 0) rfl d_X12_tick_83 0 rfl ?_
  refine aw_geti (k0 := 7) kc_12 (ws_1 w) (Nat.le_of_ble_eq_true rfl) tw_1749 d_X12_tick_84 rfl ?_
  refine aw_icmp_ge (tgt := 101) d_X12_tick_87 rfl (fun c9 => ?_) (fun c9 => ?_)
  · have k := k.1 c9
    refine aw_iinc (v := (x2 + 1)) [(0, .ref 1), (1, .int x1), (2, .int (x2 + 1)), (3, .int x3)] d_X12_tick_101 2 rfl rfl (Nat.le_of_ble_eq_true rfl) rfl rfl ?_
    refine aw_goto (tgt := 27) d_X12_tick_104 rfl ?_
    exact aw_lvp [0, 1, 2] [(0, .ref 1), (1, .int x1), (2, .int (x2 + 1))] rfl k
  · have k := k.2 c9
    refine aw_aload_n (i := 0) rfl d_X12_tick_90 0 rfl ?_
    refine aw_iload_n (i := 3) rfl d_X12_tick_91 3 rfl ?_
    refine aw_Vv 1 [.int x3] [] d_X12_tick_92 (cV_X12_wake (d + 9) 0 0) kc_12 (ws_1 w) tw_2384 rfl (rr0 (Nat.le_of_ble_eq_true rfl) (Nat.le_of_ble_eq_true rfl)) (Nat.le_of_ble_eq_true rfl) xs0 k (fun h10 kk => ?_)
    obtain ⟨w11, k⟩ := kk
    refine aw_iinc (v := (x3 + 1)) [(0, .ref 1), (1, .int x1), (2, .int x2), (3, .int (x3 + 1))] d_X12_tick_95 3 rfl rfl (Nat.le_of_ble_eq_true rfl) rfl rfl ?_
    refine aw_goto (tgt := 82) d_X12_tick_98 rfl ?_
    exact k
end
section
theorem t_X12_pointsOf (d : Nat) (h : Hp_) (x1 : Int32) (K : Int32 → Hp_ → Prop) (k : AW (m_X12_pointsOf (d + 0) 0 0) 0 0 8 [(0, .ref 1), (1, .int x1), (2, .int 0), (3, .int (150 * x1))] [] h (kI K)) : Ci (m_X12_pointsOf (d + 0) 0 0) [.ref 1, .int x1] h K := by
  refine Ct.of (fun _ _ _ => trivial) rfl (Nat.le_of_ble_eq_true rfl) ?_
  show AW (m_X12_pointsOf (d + 0) 0 0) 0 0 0 [(0, .ref 1), (1, .int x1)] [] h (kI K)
  refine aw_iconst (v := 0) d_X12_pointsOf_0 ic_0 ?_
  refine aw_istore_n (i := 2) rfl [(0, .ref 1), (1, .int x1), (2, .int 0)] d_X12_pointsOf_1 (Nat.le_of_ble_eq_true rfl) rfl rfl ?_
  refine aw_sipush (v := 150) d_X12_pointsOf_2 is_150 ?_
  refine aw_iload_n (i := 1) rfl d_X12_pointsOf_5 1 rfl ?_
  refine aw_imul d_X12_pointsOf_6 ?_
  refine aw_istore_n (i := 3) rfl [(0, .ref 1), (1, .int x1), (2, .int 0), (3, .int (150 * x1))] d_X12_pointsOf_7 (Nat.le_of_ble_eq_true rfl) rfl rfl ?_
  exact k
theorem t_X12_pointsOf_8 (d : Nat) (h : Hp_) (w : Wf h) (x1 : Int32) (x2 : Int32) (x3 : Int32) (K : Int32 → Hp_ → Prop) (k : vp_in x1 12 ∧ ((((150 * x1) + (h_i h 227 x1.toNatClampNeg)) ≤ x3 → K x2 h) ∧ (¬ ((150 * x1) + (h_i h 227 x1.toNatClampNeg)) ≤ x3 → vp_in x3 1800 ∧ ((¬ (h_i h 228 x3.toNatClampNeg) = 2 → AW (m_X12_pointsOf (d + 0) 0 0) 0 0 8 [(0, .ref 1), (1, .int x1), (2, .int (x2 + 0)), (3, .int (x3 + 1))] [] h (kI K)) ∧ ((h_i h 228 x3.toNatClampNeg) = 2 → AW (m_X12_pointsOf (d + 0) 0 0) 0 0 8 [(0, .ref 1), (1, .int x1), (2, .int (x2 + 1)), (3, .int (x3 + 1))] [] h (kI K)))))) : AW (m_X12_pointsOf (d + 0) 0 0) 0 0 8 [(0, .ref 1), (1, .int x1), (2, .int x2), (3, .int x3)] [] h (kI K) := by
  refine aw_iload_n (i := 3) rfl d_X12_pointsOf_8 3 rfl ?_
  refine aw_sipush (v := 150) d_X12_pointsOf_9 is_150 ?_
  refine aw_iload_n (i := 1) rfl d_X12_pointsOf_12 1 rfl ?_
  refine aw_imul d_X12_pointsOf_13 ?_
  refine aw_aload_n (i := 0) rfl d_X12_pointsOf_14 0 rfl ?_
  refine aw_getr (k0 := 38) kc_12 (ws_1 w) (Nat.le_of_ble_eq_true rfl) tw_1780 d_X12_pointsOf_15 rfl (wr_1_38 w) ?_
  refine aw_iload_n (i := 1) rfl d_X12_pointsOf_18 1 rfl ?_
  obtain ⟨b1, k⟩ := k
  refine aw_iald (ws_227 w) b1 d_X12_pointsOf_19 ?_
  refine aw_iadd d_X12_pointsOf_20 ?_
  refine aw_icmp_ge (tgt := 48) d_X12_pointsOf_21 rfl (fun c2 => ?_) (fun c2 => ?_)
  · have k := k.1 c2
    refine aw_iload_n (i := 2) rfl d_X12_pointsOf_48 2 rfl ?_
    exact aw_iret rfl d_X12_pointsOf_49 ⟨Nat.le_refl _, Nat.le_refl _⟩ ⟨_, rfl, k⟩
  · have k := k.2 c2
    refine aw_iload_n (i := 2) rfl d_X12_pointsOf_24 2 rfl ?_
    refine aw_aload_n (i := 0) rfl d_X12_pointsOf_25 0 rfl ?_
    refine aw_getr (k0 := 39) kc_12 (ws_1 w) (Nat.le_of_ble_eq_true rfl) tw_1781 d_X12_pointsOf_26 rfl (wr_1_39 w) ?_
    refine aw_iload_n (i := 3) rfl d_X12_pointsOf_29 3 rfl ?_
    obtain ⟨b3, k⟩ := k
    refine aw_iald (ws_228 w) b3 d_X12_pointsOf_30 ?_
    refine aw_iconst (v := 2) d_X12_pointsOf_31 ic_2 ?_
    refine aw_icmp_ne (tgt := 39) d_X12_pointsOf_32 rfl (fun c4 => ?_) (fun c4 => ?_)
    · have k := k.1 c4
      refine aw_iconst (v := 0) d_X12_pointsOf_39 ic_0 ?_
      refine aw_iadd d_X12_pointsOf_40 ?_
      refine aw_istore_n (i := 2) rfl [(0, .ref 1), (1, .int x1), (2, .int (x2 + 0)), (3, .int x3)] d_X12_pointsOf_41 (Nat.le_of_ble_eq_true rfl) rfl rfl ?_
      refine aw_iinc (v := (x3 + 1)) [(0, .ref 1), (1, .int x1), (2, .int (x2 + 0)), (3, .int (x3 + 1))] d_X12_pointsOf_42 3 rfl rfl (Nat.le_of_ble_eq_true rfl) rfl rfl ?_
      refine aw_goto (tgt := 8) d_X12_pointsOf_45 rfl ?_
      exact k
    · have k := k.2 c4
      refine aw_iconst (v := 1) d_X12_pointsOf_35 ic_1 ?_
      refine aw_goto (tgt := 40) d_X12_pointsOf_36 rfl ?_
      refine aw_iadd d_X12_pointsOf_40 ?_
      refine aw_istore_n (i := 2) rfl [(0, .ref 1), (1, .int x1), (2, .int (x2 + 1)), (3, .int x3)] d_X12_pointsOf_41 (Nat.le_of_ble_eq_true rfl) rfl rfl ?_
      refine aw_iinc (v := (x3 + 1)) [(0, .ref 1), (1, .int x1), (2, .int (x2 + 1)), (3, .int (x3 + 1))] d_X12_pointsOf_42 3 rfl rfl (Nat.le_of_ble_eq_true rfl) rfl rfl ?_
      refine aw_goto (tgt := 8) d_X12_pointsOf_45 rfl ?_
      exact k
theorem t_X12_begin (d : Nat) (h : Hp_) (w : Wf h) (x1 : Int32) (x2 : Int32) (K : Int32 → Hp_ → Prop) (k : (¬ (0 ≤ x1 ∧ x1 ≤ (h_i h 1 7) - 1) → K 0 h) ∧ ((0 ≤ x1 ∧ x1 ≤ (h_i h 1 7) - 1) → (¬ (0 ≤ x2 ∧ x2 ≤ ((h_i h 1 42) - 1)) → K 0 h) ∧ ((0 ≤ x2 ∧ x2 ≤ ((h_i h 1 42) - 1)) → vp_in x1 12 ∧ ((¬ (h_i h 208 x1.toNatClampNeg) = 0 → K 0 h) ∧ ((h_i h 208 x1.toNatClampNeg) = 0 → Ci (m_X12_pointsOf (d + 0) 0 0) [.ref 1, .int x2] h (fun r11 h9 => Wf h9 ∧ ((((h_i h 1 63) + r11) ≤ 400 → vp_in x1 12 ∧ (vp_in x1 12 ∧ (vp_in x1 12 ∧ (vp_in x1 12 ∧ (vp_in x1 12 ∧ (vp_in x1 12 ∧ (AW (m_X12_begin (d + 4) 0 0) 0 0 106 [(0, .ref 1), (1, .int x1), (2, .int x2), (3, .int (150 * x2))] [] (h_im (h_im (h_im (h_im (h_im (h_im h9 208 x1.toNatClampNeg 1) 212 x1.toNatClampNeg x2) 213 x1.toNatClampNeg 0) 214 x1.toNatClampNeg (h_i h9 1 0)) 215 x1.toNatClampNeg (h_i h9 1 63)) 216 x1.toNatClampNeg (h_i h9 1 63)) (kI K)))))))) ∧ (¬ ((h_i h 1 63) + r11) ≤ 400 → K 0 h9)))))))) : Ci (m_X12_begin (d + 4) 0 0) [.ref 1, .int x1, .int x2] h K := by
  refine Ct.of (fun _ _ _ => trivial) rfl (Nat.le_of_ble_eq_true rfl) ?_
  show AW (m_X12_begin (d + 4) 0 0) 0 0 0 [(0, .ref 1), (1, .int x1), (2, .int x2)] [] h (kI K)
  refine aw_aload_n (i := 0) rfl d_X12_begin_0 0 rfl ?_
  refine aw_iload_n (i := 1) rfl d_X12_begin_1 1 rfl ?_
  refine aw_Vi 1 [.int x1] [] d_X12_begin_2 (cV_X12_isMan (d + 1) 0 0) kc_12 (ws_1 w) tw_2163 rfl (rr0 (Nat.le_of_ble_eq_true rfl) (Nat.le_of_ble_eq_true rfl)) (Nat.le_of_ble_eq_true rfl) xs0 (s_X12_isMan _ _ w x1) (fun _ _ kk => ?_)
  obtain ⟨e1, e2⟩ := kk
  rw [e1, e2]
  refine aw_ifb_eq (tgt := 47) d_X12_begin_5 rfl (fun c3 => ?_) (fun c3 => ?_)
  · have k := k.1 c3
    refine aw_iconst (v := 0) d_X12_begin_47 ic_0 ?_
    exact aw_zret rfl rfl d_X12_begin_48 ⟨Nat.le_refl _, Nat.le_refl _⟩ ⟨_, rfl, k⟩
  · have k := k.2 c3
    refine aw_iload_n (i := 2) rfl d_X12_begin_8 2 rfl ?_
    refine aw_iconst (v := 0) d_X12_begin_9 ic_0 ?_
    refine aw_aload_n (i := 0) rfl d_X12_begin_10 0 rfl ?_
    refine aw_geti (k0 := 42) kc_12 (ws_1 w) (Nat.le_of_ble_eq_true rfl) tw_1784 d_X12_begin_11 rfl ?_
    refine aw_iconst (v := 1) d_X12_begin_14 ic_1 ?_
    refine aw_isub d_X12_begin_15 ?_
    refine aw_Si [.int x2, .int 0, .int ((h_i h 1 42) - 1)] [] d_X12_begin_16 (cS_X12_in (d + 0) 0 0) tw_2143 rfl (rr0 (Nat.le_of_ble_eq_true rfl) (Nat.le_of_ble_eq_true rfl)) (Nat.le_of_ble_eq_true rfl) xs0 (s_X12_in _ _ x2 0 ((h_i h 1 42) - 1)) (fun _ _ kk => ?_)
    obtain ⟨e4, e5⟩ := kk
    rw [e4, e5]
    refine aw_ifb_eq (tgt := 47) d_X12_begin_19 rfl (fun c6 => ?_) (fun c6 => ?_)
    · have k := k.1 c6
      refine aw_iconst (v := 0) d_X12_begin_47 ic_0 ?_
      exact aw_zret rfl rfl d_X12_begin_48 ⟨Nat.le_refl _, Nat.le_refl _⟩ ⟨_, rfl, k⟩
    · have k := k.2 c6
      refine aw_aload_n (i := 0) rfl d_X12_begin_22 0 rfl ?_
      refine aw_getr (k0 := 12) kc_12 (ws_1 w) (Nat.le_of_ble_eq_true rfl) tw_1754 d_X12_begin_23 rfl (wr_1_12 w) ?_
      refine aw_iload_n (i := 1) rfl d_X12_begin_26 1 rfl ?_
      obtain ⟨b7, k⟩ := k
      refine aw_iald (ws_208 w) b7 d_X12_begin_27 ?_
      refine aw_if_ne (tgt := 47) d_X12_begin_28 rfl (fun c8 => ?_) (fun c8 => ?_)
      · have k := k.1 c8
        refine aw_iconst (v := 0) d_X12_begin_47 ic_0 ?_
        exact aw_zret rfl rfl d_X12_begin_48 ⟨Nat.le_refl _, Nat.le_refl _⟩ ⟨_, rfl, k⟩
      · have k := k.2 c8
        refine aw_aload_n (i := 0) rfl d_X12_begin_31 0 rfl ?_
        refine aw_geti (k0 := 63) kc_12 (ws_1 w) (Nat.le_of_ble_eq_true rfl) tw_1805 d_X12_begin_32 rfl ?_
        refine aw_aload_n (i := 0) rfl d_X12_begin_35 0 rfl ?_
        refine aw_iload_n (i := 2) rfl d_X12_begin_36 2 rfl ?_
        refine aw_Vi 1 [.int x2] [.int (h_i h 1 63)] d_X12_begin_37 (cV_X12_pointsOf (d + 0) 0 0) kc_12 (ws_1 w) tw_2287 rfl (rr0 (Nat.le_of_ble_eq_true rfl) (Nat.le_of_ble_eq_true rfl)) (Nat.le_of_ble_eq_true rfl) xs0 k (fun r11 h9 kk => ?_)
        obtain ⟨w10, k⟩ := kk
        refine aw_iadd d_X12_begin_40 ?_
        refine aw_sipush (v := 400) d_X12_begin_41 is_400 ?_
        refine aw_icmp_le (tgt := 49) d_X12_begin_44 rfl (fun c12 => ?_) (fun c12 => ?_)
        · have k := k.1 c12
          refine aw_aload_n (i := 0) rfl d_X12_begin_49 0 rfl ?_
          refine aw_getr (k0 := 12) kc_12 (ws_1 w10) (Nat.le_of_ble_eq_true rfl) tw_1754 d_X12_begin_50 rfl (wr_1_12 w10) ?_
          refine aw_iload_n (i := 1) rfl d_X12_begin_53 1 rfl ?_
          refine aw_iconst (v := 1) d_X12_begin_54 ic_1 ?_
          obtain ⟨b13, k⟩ := k
          refine aw_iast (ws_208 w10) b13 d_X12_begin_55 ?_
          refine aw_aload_n (i := 0) rfl d_X12_begin_56 0 rfl ?_
          refine aw_getr (k0 := 16) kc_12 (ws_1 w10) (Nat.le_of_ble_eq_true rfl) tw_1758 d_X12_begin_57 rfl (wr_1_16 w10) ?_
          refine aw_iload_n (i := 1) rfl d_X12_begin_60 1 rfl ?_
          refine aw_iload_n (i := 2) rfl d_X12_begin_61 2 rfl ?_
          obtain ⟨b14, k⟩ := k
          refine aw_iast (ws_212 w10) b14 d_X12_begin_62 ?_
          refine aw_aload_n (i := 0) rfl d_X12_begin_63 0 rfl ?_
          refine aw_getr (k0 := 17) kc_12 (ws_1 w10) (Nat.le_of_ble_eq_true rfl) tw_1759 d_X12_begin_64 rfl (wr_1_17 w10) ?_
          refine aw_iload_n (i := 1) rfl d_X12_begin_67 1 rfl ?_
          refine aw_iconst (v := 0) d_X12_begin_68 ic_0 ?_
          obtain ⟨b15, k⟩ := k
          refine aw_iast (ws_213 w10) b15 d_X12_begin_69 ?_
          refine aw_aload_n (i := 0) rfl d_X12_begin_70 0 rfl ?_
          refine aw_getr (k0 := 18) kc_12 (ws_1 w10) (Nat.le_of_ble_eq_true rfl) tw_1760 d_X12_begin_71 rfl (wr_1_18 w10) ?_
          refine aw_iload_n (i := 1) rfl d_X12_begin_74 1 rfl ?_
          refine aw_aload_n (i := 0) rfl d_X12_begin_75 0 rfl ?_
          refine aw_geti (k0 := 0) kc_12 (ws_1 w10) (Nat.le_of_ble_eq_true rfl) tw_1742 d_X12_begin_76 rfl ?_
          refine aw_vi (v2 := (h_i h9 1 0)) (rfl) ?_
          obtain ⟨b16, k⟩ := k
          refine aw_iast (ws_214 w10) b16 d_X12_begin_79 ?_
          refine aw_aload_n (i := 0) rfl d_X12_begin_80 0 rfl ?_
          refine aw_getr (k0 := 19) kc_12 (ws_1 w10) (Nat.le_of_ble_eq_true rfl) tw_1761 d_X12_begin_81 rfl (wr_1_19 w10) ?_
          refine aw_iload_n (i := 1) rfl d_X12_begin_84 1 rfl ?_
          refine aw_aload_n (i := 0) rfl d_X12_begin_85 0 rfl ?_
          refine aw_geti (k0 := 63) kc_12 (ws_1 w10) (Nat.le_of_ble_eq_true rfl) tw_1805 d_X12_begin_86 rfl ?_
          refine aw_vi (v2 := (h_i h9 1 63)) (rfl) ?_
          obtain ⟨b17, k⟩ := k
          refine aw_iast (ws_215 w10) b17 d_X12_begin_89 ?_
          refine aw_aload_n (i := 0) rfl d_X12_begin_90 0 rfl ?_
          refine aw_getr (k0 := 20) kc_12 (ws_1 w10) (Nat.le_of_ble_eq_true rfl) tw_1762 d_X12_begin_91 rfl (wr_1_20 w10) ?_
          refine aw_iload_n (i := 1) rfl d_X12_begin_94 1 rfl ?_
          refine aw_aload_n (i := 0) rfl d_X12_begin_95 0 rfl ?_
          refine aw_geti (k0 := 63) kc_12 (ws_1 w10) (Nat.le_of_ble_eq_true rfl) tw_1805 d_X12_begin_96 rfl ?_
          refine aw_vi (v2 := (h_i h9 1 63)) (rfl) ?_
          obtain ⟨b18, k⟩ := k
          refine aw_iast (ws_216 w10) b18 d_X12_begin_99 ?_
          refine aw_sipush (v := 150) d_X12_begin_100 is_150 ?_
          refine aw_iload_n (i := 2) rfl d_X12_begin_103 2 rfl ?_
          refine aw_imul d_X12_begin_104 ?_
          refine aw_istore_n (i := 3) rfl [(0, .ref 1), (1, .int x1), (2, .int x2), (3, .int (150 * x2))] d_X12_begin_105 (Nat.le_of_ble_eq_true rfl) rfl rfl ?_
          exact k
        · have k := k.2 c12
          refine aw_iconst (v := 0) d_X12_begin_47 ic_0 ?_
          exact aw_zret rfl rfl d_X12_begin_48 ⟨Nat.le_refl _, Nat.le_refl _⟩ ⟨_, rfl, k⟩
theorem t_X12_begin_106 (d : Nat) (h : Hp_) (w : Wf h) (x1 : Int32) (x2 : Int32) (x3 : Int32) (K : Int32 → Hp_ → Prop) (k : vp_in x2 12 ∧ ((((150 * x2) + (h_i h 227 x2.toNatClampNeg)) ≤ x3 → vp_in x1 12 ∧ (Cv (m_X12_goOn (d + 3) 0 0) [.ref 1, .int x1] (h_im h 217 x1.toNatClampNeg (h_i h 1 63)) (fun h22 => Wf h22 ∧ (K 1 h22)))) ∧ (¬ ((150 * x2) + (h_i h 227 x2.toNatClampNeg)) ≤ x3 → vp_in x3 1800 ∧ ((¬ (h_i h 228 x3.toNatClampNeg) = 2 → AW (m_X12_begin (d + 4) 0 0) 0 0 106 [(0, .ref 1), (1, .int x1), (2, .int x2), (3, .int (x3 + 1))] [] h (kI K)) ∧ ((h_i h 228 x3.toNatClampNeg) = 2 → vp_in (h_i h 1 63) 400 ∧ (vp_in x3 1800 ∧ (vp_in (h_i h 1 63) 400 ∧ (vp_in x3 1800 ∧ (vp_in (h_i h 1 63) 400 ∧ (vp_in (h_i h 1 63) 400 ∧ (vp_in (h_i h 1 63) 400 ∧ (vp_in (h_i h 1 63) 400 ∧ (AW (m_X12_begin (d + 4) 0 0) 0 0 106 [(0, .ref 1), (1, .int x1), (2, .int x2), (3, .int (x3 + 1))] [] (h_im (h_im (h_im (h_im (h_im (h_im (h_im h 238 ((h_i h 1 63) : Int32).toNatClampNeg x1) 239 ((h_i h 1 63) : Int32).toNatClampNeg (h_i h 229 x3.toNatClampNeg)) 240 ((h_i h 1 63) : Int32).toNatClampNeg ((h_i h 1 0) + (h_i h 230 x3.toNatClampNeg))) 241 ((h_i h 1 63) : Int32).toNatClampNeg (-1)) 242 ((h_i h 1 63) : Int32).toNatClampNeg (-1)) 244 ((h_i h 1 63) : Int32).toNatClampNeg (h_i h 1 0)) 1 63 ((h_i h 1 63) + 1)) (kI K)))))))))))))) : AW (m_X12_begin (d + 4) 0 0) 0 0 106 [(0, .ref 1), (1, .int x1), (2, .int x2), (3, .int x3)] [] h (kI K) := by
  refine aw_iload_n (i := 3) rfl d_X12_begin_106 3 rfl ?_
  refine aw_sipush (v := 150) d_X12_begin_107 is_150 ?_
  refine aw_iload_n (i := 2) rfl d_X12_begin_110 2 rfl ?_
  refine aw_imul d_X12_begin_111 ?_
  refine aw_aload_n (i := 0) rfl d_X12_begin_112 0 rfl ?_
  refine aw_getr (k0 := 38) kc_12 (ws_1 w) (Nat.le_of_ble_eq_true rfl) tw_1780 d_X12_begin_113 rfl (wr_1_38 w) ?_
  refine aw_iload_n (i := 2) rfl d_X12_begin_116 2 rfl ?_
  obtain ⟨b19, k⟩ := k
  refine aw_iald (ws_227 w) b19 d_X12_begin_117 ?_
  refine aw_iadd d_X12_begin_118 ?_
  refine aw_icmp_ge (tgt := 226) d_X12_begin_119 rfl (fun c20 => ?_) (fun c20 => ?_)
  · have k := k.1 c20
    refine aw_aload_n (i := 0) rfl d_X12_begin_226 0 rfl ?_
    refine aw_getr (k0 := 21) kc_12 (ws_1 w) (Nat.le_of_ble_eq_true rfl) tw_1763 d_X12_begin_227 rfl (wr_1_21 w) ?_
    refine aw_iload_n (i := 1) rfl d_X12_begin_230 1 rfl ?_
    refine aw_aload_n (i := 0) rfl d_X12_begin_231 0 rfl ?_
    refine aw_geti (k0 := 63) kc_12 (ws_1 w) (Nat.le_of_ble_eq_true rfl) tw_1805 d_X12_begin_232 rfl ?_
    obtain ⟨b21, k⟩ := k
    refine aw_iast (ws_217 w) b21 d_X12_begin_235 ?_
    refine aw_aload_n (i := 0) rfl d_X12_begin_236 0 rfl ?_
    refine aw_iload_n (i := 1) rfl d_X12_begin_237 1 rfl ?_
    refine aw_Vv 1 [.int x1] [] d_X12_begin_238 (cV_X12_goOn (d + 3) 0 0) kc_12 (ws_1 w) tw_2336 rfl (rr0 (Nat.le_of_ble_eq_true rfl) (Nat.le_of_ble_eq_true rfl)) (Nat.le_of_ble_eq_true rfl) xs0 k (fun h22 kk => ?_)
    obtain ⟨w23, k⟩ := kk
    refine aw_iconst (v := 1) d_X12_begin_241 ic_1 ?_
    exact aw_zret rfl rfl d_X12_begin_242 ⟨Nat.le_refl _, Nat.le_refl _⟩ ⟨_, rfl, k⟩
  · have k := k.2 c20
    refine aw_aload_n (i := 0) rfl d_X12_begin_122 0 rfl ?_
    refine aw_getr (k0 := 39) kc_12 (ws_1 w) (Nat.le_of_ble_eq_true rfl) tw_1781 d_X12_begin_123 rfl (wr_1_39 w) ?_
    refine aw_iload_n (i := 3) rfl d_X12_begin_126 3 rfl ?_
    obtain ⟨b25, k⟩ := k
    refine aw_iald (ws_228 w) b25 d_X12_begin_127 ?_
    refine aw_iconst (v := 2) d_X12_begin_128 ic_2 ?_
    refine aw_icmp_ne (tgt := 220) d_X12_begin_129 rfl (fun c26 => ?_) (fun c26 => ?_)
    · have k := k.1 c26
      refine aw_iinc (v := (x3 + 1)) [(0, .ref 1), (1, .int x1), (2, .int x2), (3, .int (x3 + 1))] d_X12_begin_220 3 rfl rfl (Nat.le_of_ble_eq_true rfl) rfl rfl ?_
      refine aw_goto (tgt := 106) d_X12_begin_223 rfl ?_
      exact k
    · have k := k.2 c26
      refine aw_aload_n (i := 0) rfl d_X12_begin_132 0 rfl ?_
      refine aw_getr (k0 := 53) kc_12 (ws_1 w) (Nat.le_of_ble_eq_true rfl) tw_1795 d_X12_begin_133 rfl (wr_1_53 w) ?_
      refine aw_aload_n (i := 0) rfl d_X12_begin_136 0 rfl ?_
      refine aw_geti (k0 := 63) kc_12 (ws_1 w) (Nat.le_of_ble_eq_true rfl) tw_1805 d_X12_begin_137 rfl ?_
      refine aw_iload_n (i := 1) rfl d_X12_begin_140 1 rfl ?_
      obtain ⟨b27, k⟩ := k
      refine aw_iast (ws_238 w) b27 d_X12_begin_141 ?_
      refine aw_aload_n (i := 0) rfl d_X12_begin_142 0 rfl ?_
      refine aw_getr (k0 := 54) kc_12 (ws_1 w) (Nat.le_of_ble_eq_true rfl) tw_1796 d_X12_begin_143 rfl (wr_1_54 w) ?_
      refine aw_aload_n (i := 0) rfl d_X12_begin_146 0 rfl ?_
      refine aw_geti (k0 := 63) kc_12 (ws_1 w) (Nat.le_of_ble_eq_true rfl) tw_1805 d_X12_begin_147 rfl ?_
      refine aw_vi (v2 := (h_i h 1 63)) (rfl) ?_
      refine aw_aload_n (i := 0) rfl d_X12_begin_150 0 rfl ?_
      refine aw_getr (k0 := 40) kc_12 (ws_1 w) (Nat.le_of_ble_eq_true rfl) tw_1782 d_X12_begin_151 rfl (wr_1_40 w) ?_
      refine aw_iload_n (i := 3) rfl d_X12_begin_154 3 rfl ?_
      obtain ⟨b28, k⟩ := k
      refine aw_iald (ws_229 w) b28 d_X12_begin_155 ?_
      refine aw_vi (v2 := (h_i h 229 x3.toNatClampNeg)) (rfl) ?_
      obtain ⟨b29, k⟩ := k
      refine aw_iast (ws_239 w) b29 d_X12_begin_156 ?_
      refine aw_aload_n (i := 0) rfl d_X12_begin_157 0 rfl ?_
      refine aw_getr (k0 := 55) kc_12 (ws_1 w) (Nat.le_of_ble_eq_true rfl) tw_1797 d_X12_begin_158 rfl (wr_1_55 w) ?_
      refine aw_aload_n (i := 0) rfl d_X12_begin_161 0 rfl ?_
      refine aw_geti (k0 := 63) kc_12 (ws_1 w) (Nat.le_of_ble_eq_true rfl) tw_1805 d_X12_begin_162 rfl ?_
      refine aw_vi (v2 := (h_i h 1 63)) (rfl) ?_
      refine aw_aload_n (i := 0) rfl d_X12_begin_165 0 rfl ?_
      refine aw_geti (k0 := 0) kc_12 (ws_1 w) (Nat.le_of_ble_eq_true rfl) tw_1742 d_X12_begin_166 rfl ?_
      refine aw_vi (v2 := (h_i h 1 0)) (rfl) ?_
      refine aw_aload_n (i := 0) rfl d_X12_begin_169 0 rfl ?_
      refine aw_getr (k0 := 41) kc_12 (ws_1 w) (Nat.le_of_ble_eq_true rfl) tw_1783 d_X12_begin_170 rfl (wr_1_41 w) ?_
      refine aw_iload_n (i := 3) rfl d_X12_begin_173 3 rfl ?_
      obtain ⟨b30, k⟩ := k
      refine aw_iald (ws_230 w) b30 d_X12_begin_174 ?_
      refine aw_vi (v2 := (h_i h 230 x3.toNatClampNeg)) (rfl) ?_
      refine aw_iadd d_X12_begin_175 ?_
      obtain ⟨b31, k⟩ := k
      refine aw_iast (ws_240 w) b31 d_X12_begin_176 ?_
      refine aw_aload_n (i := 0) rfl d_X12_begin_177 0 rfl ?_
      refine aw_getr (k0 := 56) kc_12 (ws_1 w) (Nat.le_of_ble_eq_true rfl) tw_1798 d_X12_begin_178 rfl (wr_1_56 w) ?_
      refine aw_aload_n (i := 0) rfl d_X12_begin_181 0 rfl ?_
      refine aw_geti (k0 := 63) kc_12 (ws_1 w) (Nat.le_of_ble_eq_true rfl) tw_1805 d_X12_begin_182 rfl ?_
      refine aw_vi (v2 := (h_i h 1 63)) (rfl) ?_
      refine aw_iconst (v := (-1)) d_X12_begin_185 ic_m1 ?_
      obtain ⟨b32, k⟩ := k
      refine aw_iast (ws_241 w) b32 d_X12_begin_186 ?_
      refine aw_aload_n (i := 0) rfl d_X12_begin_187 0 rfl ?_
      refine aw_getr (k0 := 57) kc_12 (ws_1 w) (Nat.le_of_ble_eq_true rfl) tw_1799 d_X12_begin_188 rfl (wr_1_57 w) ?_
      refine aw_aload_n (i := 0) rfl d_X12_begin_191 0 rfl ?_
      refine aw_geti (k0 := 63) kc_12 (ws_1 w) (Nat.le_of_ble_eq_true rfl) tw_1805 d_X12_begin_192 rfl ?_
      refine aw_vi (v2 := (h_i h 1 63)) (rfl) ?_
      refine aw_iconst (v := (-1)) d_X12_begin_195 ic_m1 ?_
      obtain ⟨b33, k⟩ := k
      refine aw_iast (ws_242 w) b33 d_X12_begin_196 ?_
      refine aw_aload_n (i := 0) rfl d_X12_begin_197 0 rfl ?_
      refine aw_getr (k0 := 59) kc_12 (ws_1 w) (Nat.le_of_ble_eq_true rfl) tw_1801 d_X12_begin_198 rfl (wr_1_59 w) ?_
      refine aw_aload_n (i := 0) rfl d_X12_begin_201 0 rfl ?_
      refine aw_geti (k0 := 63) kc_12 (ws_1 w) (Nat.le_of_ble_eq_true rfl) tw_1805 d_X12_begin_202 rfl ?_
      refine aw_vi (v2 := (h_i h 1 63)) (rfl) ?_
      refine aw_aload_n (i := 0) rfl d_X12_begin_205 0 rfl ?_
      refine aw_geti (k0 := 0) kc_12 (ws_1 w) (Nat.le_of_ble_eq_true rfl) tw_1742 d_X12_begin_206 rfl ?_
      refine aw_vi (v2 := (h_i h 1 0)) (rfl) ?_
      obtain ⟨b34, k⟩ := k
      refine aw_iast (ws_244 w) b34 d_X12_begin_209 ?_
      refine aw_aload_n (i := 0) rfl d_X12_begin_210 0 rfl ?_
      refine aw_dup d_X12_begin_211 rfl ?_
      refine aw_geti (k0 := 63) kc_12 (ws_1 w) (Nat.le_of_ble_eq_true rfl) tw_1805 d_X12_begin_212 rfl ?_
      refine aw_vi (v2 := (h_i h 1 63)) (rfl) ?_
      refine aw_iconst (v := 1) d_X12_begin_215 ic_1 ?_
      refine aw_iadd d_X12_begin_216 ?_
      refine aw_puti (k0 := 63) kc_12 (ws_1 w) (Nat.le_of_ble_eq_true rfl) tw_1805 d_X12_begin_217 rfl rfl nf_i ?_
      refine aw_iinc (v := (x3 + 1)) [(0, .ref 1), (1, .int x1), (2, .int x2), (3, .int (x3 + 1))] d_X12_begin_220 3 rfl rfl (Nat.le_of_ble_eq_true rfl) rfl rfl ?_
      refine aw_goto (tgt := 106) d_X12_begin_223 rfl ?_
      exact k
theorem t_X12_draw (d : Nat) (h : Hp_) (w : Wf h) (x1 : Int32) (x2 : Int32) (x3 : Int32) (K : Int32 → Hp_ → Prop) (k : (¬ (0 ≤ x1 ∧ x1 ≤ (h_i h 1 7) - 1) → K 0 h) ∧ ((0 ≤ x1 ∧ x1 ≤ (h_i h 1 7) - 1) → (¬ (0 ≤ x2 ∧ x2 ≤ 15) → K 0 h) ∧ ((0 ≤ x2 ∧ x2 ≤ 15) → (¬ ((h_i h 1 0) ≤ x3 ∧ x3 ≤ 30000) → K 0 h) ∧ (((h_i h 1 0) ≤ x3 ∧ x3 ≤ 30000) → vp_in x1 12 ∧ (Ci (m_X12_walkOf (d + 0) 0 0) [.ref 1, .int (h_i h 206 x1.toNatClampNeg), .int x2] h (fun r13 h11 => Wf h11 ∧ ((r13 = (-1) → K 0 h11) ∧ (¬ r13 = (-1) → vp_in x1 12 ∧ (((h_i h11 208 x1.toNatClampNeg) = 3 → K 0 h11) ∧ (¬ (h_i h11 208 x1.toNatClampNeg) = 3 → vp_in x1 12 ∧ ((¬ (h_i h11 208 x1.toNatClampNeg) = 4 → vp_in x1 12 ∧ ((¬ (h_i h11 208 x1.toNatClampNeg) = 1 → vp_in x1 12 ∧ (vp_in x1 12 ∧ (vp_in x1 12 ∧ (vp_in x1 12 ∧ (vp_in x1 12 ∧ ((¬ (h_i h11 210 x1.toNatClampNeg) = (-1) → vp_in x1 12 ∧ (vp_in x1 12 ∧ ((¬ (h_i h11 210 x1.toNatClampNeg) = (-1) → K 1 (h_im (h_im (h_im (h_im (h_im h11 213 x1.toNatClampNeg (-1)) 208 x1.toNatClampNeg 3) 218 x1.toNatClampNeg x2) 219 x1.toNatClampNeg x3) 248 x1.toNatClampNeg (vp_nar .boolean 0))) ∧ ((h_i h11 210 x1.toNatClampNeg) = (-1) → Cv (m_X12_goDrawn (d + 4) 0 0) [.ref 1, .int x1] (h_im (h_im (h_im (h_im (h_im h11 213 x1.toNatClampNeg (-1)) 208 x1.toNatClampNeg 3) 218 x1.toNatClampNeg x2) 219 x1.toNatClampNeg x3) 248 x1.toNatClampNeg (vp_nar .boolean 0)) (fun h30 => Wf h30 ∧ (K 1 h30)))))) ∧ ((h_i h11 210 x1.toNatClampNeg) = (-1) → vp_in x1 12 ∧ (vp_in x1 12 ∧ ((¬ (h_i h11 210 x1.toNatClampNeg) = (-1) → K 1 (h_im (h_im (h_im (h_im (h_im h11 213 x1.toNatClampNeg (-1)) 208 x1.toNatClampNeg 3) 218 x1.toNatClampNeg x2) 219 x1.toNatClampNeg x3) 248 x1.toNatClampNeg (vp_nar .boolean 1))) ∧ ((h_i h11 210 x1.toNatClampNeg) = (-1) → Cv (m_X12_goDrawn (d + 4) 0 0) [.ref 1, .int x1] (h_im (h_im (h_im (h_im (h_im h11 213 x1.toNatClampNeg (-1)) 208 x1.toNatClampNeg 3) 218 x1.toNatClampNeg x2) 219 x1.toNatClampNeg x3) 248 x1.toNatClampNeg (vp_nar .boolean 1)) (fun h36 => Wf h36 ∧ (K 1 h36)))))))))))) ∧ ((h_i h11 208 x1.toNatClampNeg) = 1 → Cv (m_X12_drop (d + 1) 0 0) [.ref 1, .int x1, .int 3] h11 (fun h39 => Wf h39 ∧ (vp_in x1 12 ∧ (vp_in x1 12 ∧ (vp_in x1 12 ∧ (vp_in x1 12 ∧ (vp_in x1 12 ∧ ((¬ (h_i h39 210 x1.toNatClampNeg) = (-1) → vp_in x1 12 ∧ (vp_in x1 12 ∧ ((¬ (h_i h39 210 x1.toNatClampNeg) = (-1) → K 1 (h_im (h_im (h_im (h_im (h_im h39 213 x1.toNatClampNeg (-1)) 208 x1.toNatClampNeg 3) 218 x1.toNatClampNeg x2) 219 x1.toNatClampNeg x3) 248 x1.toNatClampNeg (vp_nar .boolean 0))) ∧ ((h_i h39 210 x1.toNatClampNeg) = (-1) → Cv (m_X12_goDrawn (d + 4) 0 0) [.ref 1, .int x1] (h_im (h_im (h_im (h_im (h_im h39 213 x1.toNatClampNeg (-1)) 208 x1.toNatClampNeg 3) 218 x1.toNatClampNeg x2) 219 x1.toNatClampNeg x3) 248 x1.toNatClampNeg (vp_nar .boolean 0)) (fun h51 => Wf h51 ∧ (K 1 h51)))))) ∧ ((h_i h39 210 x1.toNatClampNeg) = (-1) → vp_in x1 12 ∧ (vp_in x1 12 ∧ ((¬ (h_i h39 210 x1.toNatClampNeg) = (-1) → K 1 (h_im (h_im (h_im (h_im (h_im h39 213 x1.toNatClampNeg (-1)) 208 x1.toNatClampNeg 3) 218 x1.toNatClampNeg x2) 219 x1.toNatClampNeg x3) 248 x1.toNatClampNeg (vp_nar .boolean 1))) ∧ ((h_i h39 210 x1.toNatClampNeg) = (-1) → Cv (m_X12_goDrawn (d + 4) 0 0) [.ref 1, .int x1] (h_im (h_im (h_im (h_im (h_im h39 213 x1.toNatClampNeg (-1)) 208 x1.toNatClampNeg 3) 218 x1.toNatClampNeg x2) 219 x1.toNatClampNeg x3) 248 x1.toNatClampNeg (vp_nar .boolean 1)) (fun h57 => Wf h57 ∧ (K 1 h57)))))))))))))))) ∧ ((h_i h11 208 x1.toNatClampNeg) = 4 → K 0 h11)))))))))))) : Ci (m_X12_draw (d + 5) 0 0) [.ref 1, .int x1, .int x2, .int x3] h K := by
  refine Ct.of (fun _ _ _ => trivial) rfl (Nat.le_of_ble_eq_true rfl) ?_
  show AW (m_X12_draw (d + 5) 0 0) 0 0 0 [(0, .ref 1), (1, .int x1), (2, .int x2), (3, .int x3)] [] h (kI K)
  refine aw_aload_n (i := 0) rfl d_X12_draw_0 0 rfl ?_
  refine aw_iload_n (i := 1) rfl d_X12_draw_1 1 rfl ?_
  refine aw_Vi 1 [.int x1] [] d_X12_draw_2 (cV_X12_isMan (d + 1) 0 0) kc_12 (ws_1 w) tw_2163 rfl (rr0 (Nat.le_of_ble_eq_true rfl) (Nat.le_of_ble_eq_true rfl)) (Nat.le_of_ble_eq_true rfl) xs0 (s_X12_isMan _ _ w x1) (fun _ _ kk => ?_)
  obtain ⟨e1, e2⟩ := kk
  rw [e1, e2]
  refine aw_ifb_eq (tgt := 64) d_X12_draw_5 rfl (fun c3 => ?_) (fun c3 => ?_)
  · have k := k.1 c3
    refine aw_iconst (v := 0) d_X12_draw_64 ic_0 ?_
    exact aw_zret rfl rfl d_X12_draw_65 ⟨Nat.le_refl _, Nat.le_refl _⟩ ⟨_, rfl, k⟩
  · have k := k.2 c3
    refine aw_iload_n (i := 2) rfl d_X12_draw_8 2 rfl ?_
    refine aw_Si [.int x2] [] d_X12_draw_9 (cS_X12_isPlace (d + 1) 0 0) tw_2140 rfl (rr0 (Nat.le_of_ble_eq_true rfl) (Nat.le_of_ble_eq_true rfl)) (Nat.le_of_ble_eq_true rfl) xs0 (s_X12_isPlace _ _ x2) (fun _ _ kk => ?_)
    obtain ⟨e4, e5⟩ := kk
    rw [e4, e5]
    refine aw_ifb_eq (tgt := 64) d_X12_draw_12 rfl (fun c6 => ?_) (fun c6 => ?_)
    · have k := k.1 c6
      refine aw_iconst (v := 0) d_X12_draw_64 ic_0 ?_
      exact aw_zret rfl rfl d_X12_draw_65 ⟨Nat.le_refl _, Nat.le_refl _⟩ ⟨_, rfl, k⟩
    · have k := k.2 c6
      refine aw_iload_n (i := 3) rfl d_X12_draw_15 3 rfl ?_
      refine aw_aload_n (i := 0) rfl d_X12_draw_16 0 rfl ?_
      refine aw_geti (k0 := 0) kc_12 (ws_1 w) (Nat.le_of_ble_eq_true rfl) tw_1742 d_X12_draw_17 rfl ?_
      refine aw_sipush (v := 30000) d_X12_draw_20 is_30000 ?_
      refine aw_Si [.int x3, .int (h_i h 1 0), .int 30000] [] d_X12_draw_23 (cS_X12_in (d + 0) 0 0) tw_2143 rfl (rr0 (Nat.le_of_ble_eq_true rfl) (Nat.le_of_ble_eq_true rfl)) (Nat.le_of_ble_eq_true rfl) xs0 (s_X12_in _ _ x3 (h_i h 1 0) 30000) (fun _ _ kk => ?_)
      obtain ⟨e7, e8⟩ := kk
      rw [e7, e8]
      refine aw_ifb_eq (tgt := 64) d_X12_draw_26 rfl (fun c9 => ?_) (fun c9 => ?_)
      · have k := k.1 c9
        refine aw_iconst (v := 0) d_X12_draw_64 ic_0 ?_
        exact aw_zret rfl rfl d_X12_draw_65 ⟨Nat.le_refl _, Nat.le_refl _⟩ ⟨_, rfl, k⟩
      · have k := k.2 c9
        refine aw_aload_n (i := 0) rfl d_X12_draw_29 0 rfl ?_
        refine aw_aload_n (i := 0) rfl d_X12_draw_30 0 rfl ?_
        refine aw_getr (k0 := 10) kc_12 (ws_1 w) (Nat.le_of_ble_eq_true rfl) tw_1752 d_X12_draw_31 rfl (wr_1_10 w) ?_
        refine aw_iload_n (i := 1) rfl d_X12_draw_34 1 rfl ?_
        obtain ⟨b10, k⟩ := k
        refine aw_iald (ws_206 w) b10 d_X12_draw_35 ?_
        refine aw_iload_n (i := 2) rfl d_X12_draw_36 2 rfl ?_
        refine aw_Vi 1 [.int (h_i h 206 x1.toNatClampNeg), .int x2] [] d_X12_draw_37 (cV_X12_walkOf (d + 0) 0 0) kc_12 (ws_1 w) tw_2150 rfl (rr0 (Nat.le_of_ble_eq_true rfl) (Nat.le_of_ble_eq_true rfl)) (Nat.le_of_ble_eq_true rfl) xs0 k (fun r13 h11 kk => ?_)
        obtain ⟨w12, k⟩ := kk
        refine aw_iconst (v := (-1)) d_X12_draw_40 ic_m1 ?_
        refine aw_icmp_eq (tgt := 64) d_X12_draw_41 rfl (fun c14 => ?_) (fun c14 => ?_)
        · have k := k.1 c14
          refine aw_iconst (v := 0) d_X12_draw_64 ic_0 ?_
          exact aw_zret rfl rfl d_X12_draw_65 ⟨Nat.le_refl _, Nat.le_refl _⟩ ⟨_, rfl, k⟩
        · have k := k.2 c14
          refine aw_aload_n (i := 0) rfl d_X12_draw_44 0 rfl ?_
          refine aw_getr (k0 := 12) kc_12 (ws_1 w12) (Nat.le_of_ble_eq_true rfl) tw_1754 d_X12_draw_45 rfl (wr_1_12 w12) ?_
          refine aw_iload_n (i := 1) rfl d_X12_draw_48 1 rfl ?_
          obtain ⟨b15, k⟩ := k
          refine aw_iald (ws_208 w12) b15 d_X12_draw_49 ?_
          refine aw_iconst (v := 3) d_X12_draw_50 ic_3 ?_
          refine aw_icmp_eq (tgt := 64) d_X12_draw_51 rfl (fun c16 => ?_) (fun c16 => ?_)
          · have k := k.1 c16
            refine aw_iconst (v := 0) d_X12_draw_64 ic_0 ?_
            exact aw_zret rfl rfl d_X12_draw_65 ⟨Nat.le_refl _, Nat.le_refl _⟩ ⟨_, rfl, k⟩
          · have k := k.2 c16
            refine aw_aload_n (i := 0) rfl d_X12_draw_54 0 rfl ?_
            refine aw_getr (k0 := 12) kc_12 (ws_1 w12) (Nat.le_of_ble_eq_true rfl) tw_1754 d_X12_draw_55 rfl (wr_1_12 w12) ?_
            refine aw_iload_n (i := 1) rfl d_X12_draw_58 1 rfl ?_
            obtain ⟨b17, k⟩ := k
            refine aw_iald (ws_208 w12) b17 d_X12_draw_59 ?_
            refine aw_iconst (v := 4) d_X12_draw_60 ic_4 ?_
            refine aw_icmp_ne (tgt := 66) d_X12_draw_61 rfl (fun c18 => ?_) (fun c18 => ?_)
            · have k := k.1 c18
              refine aw_aload_n (i := 0) rfl d_X12_draw_66 0 rfl ?_
              refine aw_getr (k0 := 12) kc_12 (ws_1 w12) (Nat.le_of_ble_eq_true rfl) tw_1754 d_X12_draw_67 rfl (wr_1_12 w12) ?_
              refine aw_iload_n (i := 1) rfl d_X12_draw_70 1 rfl ?_
              obtain ⟨b19, k⟩ := k
              refine aw_iald (ws_208 w12) b19 d_X12_draw_71 ?_
              refine aw_iconst (v := 1) d_X12_draw_72 ic_1 ?_
              refine aw_icmp_ne (tgt := 82) d_X12_draw_73 rfl (fun c20 => ?_) (fun c20 => ?_)
              · have k := k.1 c20
                refine aw_aload_n (i := 0) rfl d_X12_draw_82 0 rfl ?_
                refine aw_getr (k0 := 17) kc_12 (ws_1 w12) (Nat.le_of_ble_eq_true rfl) tw_1759 d_X12_draw_83 rfl (wr_1_17 w12) ?_
                refine aw_iload_n (i := 1) rfl d_X12_draw_86 1 rfl ?_
                refine aw_iconst (v := (-1)) d_X12_draw_87 ic_m1 ?_
                obtain ⟨b21, k⟩ := k
                refine aw_iast (ws_213 w12) b21 d_X12_draw_88 ?_
                refine aw_aload_n (i := 0) rfl d_X12_draw_89 0 rfl ?_
                refine aw_getr (k0 := 12) kc_12 (ws_1 w12) (Nat.le_of_ble_eq_true rfl) tw_1754 d_X12_draw_90 rfl (wr_1_12 w12) ?_
                refine aw_iload_n (i := 1) rfl d_X12_draw_93 1 rfl ?_
                refine aw_iconst (v := 3) d_X12_draw_94 ic_3 ?_
                obtain ⟨b22, k⟩ := k
                refine aw_iast (ws_208 w12) b22 d_X12_draw_95 ?_
                refine aw_aload_n (i := 0) rfl d_X12_draw_96 0 rfl ?_
                refine aw_getr (k0 := 22) kc_12 (ws_1 w12) (Nat.le_of_ble_eq_true rfl) tw_1764 d_X12_draw_97 rfl (wr_1_22 w12) ?_
                refine aw_iload_n (i := 1) rfl d_X12_draw_100 1 rfl ?_
                refine aw_iload_n (i := 2) rfl d_X12_draw_101 2 rfl ?_
                obtain ⟨b23, k⟩ := k
                refine aw_iast (ws_218 w12) b23 d_X12_draw_102 ?_
                refine aw_aload_n (i := 0) rfl d_X12_draw_103 0 rfl ?_
                refine aw_getr (k0 := 23) kc_12 (ws_1 w12) (Nat.le_of_ble_eq_true rfl) tw_1765 d_X12_draw_104 rfl (wr_1_23 w12) ?_
                refine aw_iload_n (i := 1) rfl d_X12_draw_107 1 rfl ?_
                refine aw_iload_n (i := 3) rfl d_X12_draw_108 3 rfl ?_
                obtain ⟨b24, k⟩ := k
                refine aw_iast (ws_219 w12) b24 d_X12_draw_109 ?_
                refine aw_aload_n (i := 0) rfl d_X12_draw_110 0 rfl ?_
                refine aw_getr (k0 := 65) kc_12 (ws_1 w12) (Nat.le_of_ble_eq_true rfl) tw_1807 d_X12_draw_111 rfl (wr_1_65 w12) ?_
                refine aw_iload_n (i := 1) rfl d_X12_draw_114 1 rfl ?_
                refine aw_aload_n (i := 0) rfl d_X12_draw_115 0 rfl ?_
                refine aw_getr (k0 := 14) kc_12 (ws_1 w12) (Nat.le_of_ble_eq_true rfl) tw_1756 d_X12_draw_116 rfl (wr_1_14 w12) ?_
                refine aw_iload_n (i := 1) rfl d_X12_draw_119 1 rfl ?_
                obtain ⟨b25, k⟩ := k
                refine aw_iald (ws_210 w12) b25 d_X12_draw_120 ?_
                refine aw_vi (v2 := (h_i h11 210 x1.toNatClampNeg)) (rfl) ?_
                refine aw_iconst (v := (-1)) d_X12_draw_121 ic_m1 ?_
                refine aw_icmp_ne (tgt := 129) d_X12_draw_122 rfl (fun c26 => ?_) (fun c26 => ?_)
                · have k := k.1 c26
                  refine aw_iconst (v := 0) d_X12_draw_129 ic_0 ?_
                  obtain ⟨b27, k⟩ := k
                  refine aw_zast (ws_248 w12) b27 d_X12_draw_130 ?_
                  refine aw_aload_n (i := 0) rfl d_X12_draw_131 0 rfl ?_
                  refine aw_getr (k0 := 14) kc_12 (ws_1 w12) (Nat.le_of_ble_eq_true rfl) tw_1756 d_X12_draw_132 rfl (wr_1_14 w12) ?_
                  refine aw_iload_n (i := 1) rfl d_X12_draw_135 1 rfl ?_
                  obtain ⟨b28, k⟩ := k
                  refine aw_iald (ws_210 w12) b28 d_X12_draw_136 ?_
                  refine aw_vi (v2 := (h_i h11 210 x1.toNatClampNeg)) (rfl) ?_
                  refine aw_iconst (v := (-1)) d_X12_draw_137 ic_m1 ?_
                  refine aw_icmp_ne (tgt := 146) d_X12_draw_138 rfl (fun c29 => ?_) (fun c29 => ?_)
                  · have k := k.1 c29
                    refine aw_iconst (v := 1) d_X12_draw_146 ic_1 ?_
                    exact aw_zret rfl rfl d_X12_draw_147 ⟨Nat.le_refl _, Nat.le_refl _⟩ ⟨_, rfl, k⟩
                  · have k := k.2 c29
                    refine aw_aload_n (i := 0) rfl d_X12_draw_141 0 rfl ?_
                    refine aw_iload_n (i := 1) rfl d_X12_draw_142 1 rfl ?_
                    refine aw_Vv 1 [.int x1] [] d_X12_draw_143 (cV_X12_goDrawn (d + 4) 0 0) kc_12 (ws_1 w12) tw_2368 rfl (rr0 (Nat.le_of_ble_eq_true rfl) (Nat.le_of_ble_eq_true rfl)) (Nat.le_of_ble_eq_true rfl) xs0 k (fun h30 kk => ?_)
                    obtain ⟨w31, k⟩ := kk
                    refine aw_iconst (v := 1) d_X12_draw_146 ic_1 ?_
                    exact aw_zret rfl rfl d_X12_draw_147 ⟨Nat.le_refl _, Nat.le_refl _⟩ ⟨_, rfl, k⟩
                · have k := k.2 c26
                  refine aw_iconst (v := 1) d_X12_draw_125 ic_1 ?_
                  refine aw_goto (tgt := 130) d_X12_draw_126 rfl ?_
                  obtain ⟨b33, k⟩ := k
                  refine aw_zast (ws_248 w12) b33 d_X12_draw_130 ?_
                  refine aw_aload_n (i := 0) rfl d_X12_draw_131 0 rfl ?_
                  refine aw_getr (k0 := 14) kc_12 (ws_1 w12) (Nat.le_of_ble_eq_true rfl) tw_1756 d_X12_draw_132 rfl (wr_1_14 w12) ?_
                  refine aw_iload_n (i := 1) rfl d_X12_draw_135 1 rfl ?_
                  obtain ⟨b34, k⟩ := k
                  refine aw_iald (ws_210 w12) b34 d_X12_draw_136 ?_
                  refine aw_vi (v2 := (h_i h11 210 x1.toNatClampNeg)) (rfl) ?_
                  refine aw_iconst (v := (-1)) d_X12_draw_137 ic_m1 ?_
                  refine aw_icmp_ne (tgt := 146) d_X12_draw_138 rfl (fun c35 => ?_) (fun c35 => ?_)
                  · have k := k.1 c35
                    refine aw_iconst (v := 1) d_X12_draw_146 ic_1 ?_
                    exact aw_zret rfl rfl d_X12_draw_147 ⟨Nat.le_refl _, Nat.le_refl _⟩ ⟨_, rfl, k⟩
                  · have k := k.2 c35
                    refine aw_aload_n (i := 0) rfl d_X12_draw_141 0 rfl ?_
                    refine aw_iload_n (i := 1) rfl d_X12_draw_142 1 rfl ?_
                    refine aw_Vv 1 [.int x1] [] d_X12_draw_143 (cV_X12_goDrawn (d + 4) 0 0) kc_12 (ws_1 w12) tw_2368 rfl (rr0 (Nat.le_of_ble_eq_true rfl) (Nat.le_of_ble_eq_true rfl)) (Nat.le_of_ble_eq_true rfl) xs0 k (fun h36 kk => ?_)
                    obtain ⟨w37, k⟩ := kk
                    refine aw_iconst (v := 1) d_X12_draw_146 ic_1 ?_
                    exact aw_zret rfl rfl d_X12_draw_147 ⟨Nat.le_refl _, Nat.le_refl _⟩ ⟨_, rfl, k⟩
              · have k := k.2 c20
                refine aw_aload_n (i := 0) rfl d_X12_draw_76 0 rfl ?_
                refine aw_iload_n (i := 1) rfl d_X12_draw_77 1 rfl ?_
                refine aw_iconst (v := 3) d_X12_draw_78 ic_3 ?_
                refine aw_Vv 1 [.int x1, .int 3] [] d_X12_draw_79 (cV_X12_drop (d + 1) 0 0) kc_12 (ws_1 w12) tw_2364 rfl (rr0 (Nat.le_of_ble_eq_true rfl) (Nat.le_of_ble_eq_true rfl)) (Nat.le_of_ble_eq_true rfl) xs0 k (fun h39 kk => ?_)
                obtain ⟨w40, k⟩ := kk
                refine aw_aload_n (i := 0) rfl d_X12_draw_82 0 rfl ?_
                refine aw_getr (k0 := 17) kc_12 (ws_1 w40) (Nat.le_of_ble_eq_true rfl) tw_1759 d_X12_draw_83 rfl (wr_1_17 w40) ?_
                refine aw_iload_n (i := 1) rfl d_X12_draw_86 1 rfl ?_
                refine aw_iconst (v := (-1)) d_X12_draw_87 ic_m1 ?_
                obtain ⟨b42, k⟩ := k
                refine aw_iast (ws_213 w40) b42 d_X12_draw_88 ?_
                refine aw_aload_n (i := 0) rfl d_X12_draw_89 0 rfl ?_
                refine aw_getr (k0 := 12) kc_12 (ws_1 w40) (Nat.le_of_ble_eq_true rfl) tw_1754 d_X12_draw_90 rfl (wr_1_12 w40) ?_
                refine aw_iload_n (i := 1) rfl d_X12_draw_93 1 rfl ?_
                refine aw_iconst (v := 3) d_X12_draw_94 ic_3 ?_
                obtain ⟨b43, k⟩ := k
                refine aw_iast (ws_208 w40) b43 d_X12_draw_95 ?_
                refine aw_aload_n (i := 0) rfl d_X12_draw_96 0 rfl ?_
                refine aw_getr (k0 := 22) kc_12 (ws_1 w40) (Nat.le_of_ble_eq_true rfl) tw_1764 d_X12_draw_97 rfl (wr_1_22 w40) ?_
                refine aw_iload_n (i := 1) rfl d_X12_draw_100 1 rfl ?_
                refine aw_iload_n (i := 2) rfl d_X12_draw_101 2 rfl ?_
                obtain ⟨b44, k⟩ := k
                refine aw_iast (ws_218 w40) b44 d_X12_draw_102 ?_
                refine aw_aload_n (i := 0) rfl d_X12_draw_103 0 rfl ?_
                refine aw_getr (k0 := 23) kc_12 (ws_1 w40) (Nat.le_of_ble_eq_true rfl) tw_1765 d_X12_draw_104 rfl (wr_1_23 w40) ?_
                refine aw_iload_n (i := 1) rfl d_X12_draw_107 1 rfl ?_
                refine aw_iload_n (i := 3) rfl d_X12_draw_108 3 rfl ?_
                obtain ⟨b45, k⟩ := k
                refine aw_iast (ws_219 w40) b45 d_X12_draw_109 ?_
                refine aw_aload_n (i := 0) rfl d_X12_draw_110 0 rfl ?_
                refine aw_getr (k0 := 65) kc_12 (ws_1 w40) (Nat.le_of_ble_eq_true rfl) tw_1807 d_X12_draw_111 rfl (wr_1_65 w40) ?_
                refine aw_iload_n (i := 1) rfl d_X12_draw_114 1 rfl ?_
                refine aw_aload_n (i := 0) rfl d_X12_draw_115 0 rfl ?_
                refine aw_getr (k0 := 14) kc_12 (ws_1 w40) (Nat.le_of_ble_eq_true rfl) tw_1756 d_X12_draw_116 rfl (wr_1_14 w40) ?_
                refine aw_iload_n (i := 1) rfl d_X12_draw_119 1 rfl ?_
                obtain ⟨b46, k⟩ := k
                refine aw_iald (ws_210 w40) b46 d_X12_draw_120 ?_
                refine aw_vi (v2 := (h_i h39 210 x1.toNatClampNeg)) (rfl) ?_
                refine aw_iconst (v := (-1)) d_X12_draw_121 ic_m1 ?_
                refine aw_icmp_ne (tgt := 129) d_X12_draw_122 rfl (fun c47 => ?_) (fun c47 => ?_)
                · have k := k.1 c47
                  refine aw_iconst (v := 0) d_X12_draw_129 ic_0 ?_
                  obtain ⟨b48, k⟩ := k
                  refine aw_zast (ws_248 w40) b48 d_X12_draw_130 ?_
                  refine aw_aload_n (i := 0) rfl d_X12_draw_131 0 rfl ?_
                  refine aw_getr (k0 := 14) kc_12 (ws_1 w40) (Nat.le_of_ble_eq_true rfl) tw_1756 d_X12_draw_132 rfl (wr_1_14 w40) ?_
                  refine aw_iload_n (i := 1) rfl d_X12_draw_135 1 rfl ?_
                  obtain ⟨b49, k⟩ := k
                  refine aw_iald (ws_210 w40) b49 d_X12_draw_136 ?_
                  refine aw_vi (v2 := (h_i h39 210 x1.toNatClampNeg)) (rfl) ?_
                  refine aw_iconst (v := (-1)) d_X12_draw_137 ic_m1 ?_
                  refine aw_icmp_ne (tgt := 146) d_X12_draw_138 rfl (fun c50 => ?_) (fun c50 => ?_)
                  · have k := k.1 c50
                    refine aw_iconst (v := 1) d_X12_draw_146 ic_1 ?_
                    exact aw_zret rfl rfl d_X12_draw_147 ⟨Nat.le_refl _, Nat.le_refl _⟩ ⟨_, rfl, k⟩
                  · have k := k.2 c50
                    refine aw_aload_n (i := 0) rfl d_X12_draw_141 0 rfl ?_
                    refine aw_iload_n (i := 1) rfl d_X12_draw_142 1 rfl ?_
                    refine aw_Vv 1 [.int x1] [] d_X12_draw_143 (cV_X12_goDrawn (d + 4) 0 0) kc_12 (ws_1 w40) tw_2368 rfl (rr0 (Nat.le_of_ble_eq_true rfl) (Nat.le_of_ble_eq_true rfl)) (Nat.le_of_ble_eq_true rfl) xs0 k (fun h51 kk => ?_)
                    obtain ⟨w52, k⟩ := kk
                    refine aw_iconst (v := 1) d_X12_draw_146 ic_1 ?_
                    exact aw_zret rfl rfl d_X12_draw_147 ⟨Nat.le_refl _, Nat.le_refl _⟩ ⟨_, rfl, k⟩
                · have k := k.2 c47
                  refine aw_iconst (v := 1) d_X12_draw_125 ic_1 ?_
                  refine aw_goto (tgt := 130) d_X12_draw_126 rfl ?_
                  obtain ⟨b54, k⟩ := k
                  refine aw_zast (ws_248 w40) b54 d_X12_draw_130 ?_
                  refine aw_aload_n (i := 0) rfl d_X12_draw_131 0 rfl ?_
                  refine aw_getr (k0 := 14) kc_12 (ws_1 w40) (Nat.le_of_ble_eq_true rfl) tw_1756 d_X12_draw_132 rfl (wr_1_14 w40) ?_
                  refine aw_iload_n (i := 1) rfl d_X12_draw_135 1 rfl ?_
                  obtain ⟨b55, k⟩ := k
                  refine aw_iald (ws_210 w40) b55 d_X12_draw_136 ?_
                  refine aw_vi (v2 := (h_i h39 210 x1.toNatClampNeg)) (rfl) ?_
                  refine aw_iconst (v := (-1)) d_X12_draw_137 ic_m1 ?_
                  refine aw_icmp_ne (tgt := 146) d_X12_draw_138 rfl (fun c56 => ?_) (fun c56 => ?_)
                  · have k := k.1 c56
                    refine aw_iconst (v := 1) d_X12_draw_146 ic_1 ?_
                    exact aw_zret rfl rfl d_X12_draw_147 ⟨Nat.le_refl _, Nat.le_refl _⟩ ⟨_, rfl, k⟩
                  · have k := k.2 c56
                    refine aw_aload_n (i := 0) rfl d_X12_draw_141 0 rfl ?_
                    refine aw_iload_n (i := 1) rfl d_X12_draw_142 1 rfl ?_
                    refine aw_Vv 1 [.int x1] [] d_X12_draw_143 (cV_X12_goDrawn (d + 4) 0 0) kc_12 (ws_1 w40) tw_2368 rfl (rr0 (Nat.le_of_ble_eq_true rfl) (Nat.le_of_ble_eq_true rfl)) (Nat.le_of_ble_eq_true rfl) xs0 k (fun h57 kk => ?_)
                    obtain ⟨w58, k⟩ := kk
                    refine aw_iconst (v := 1) d_X12_draw_146 ic_1 ?_
                    exact aw_zret rfl rfl d_X12_draw_147 ⟨Nat.le_refl _, Nat.le_refl _⟩ ⟨_, rfl, k⟩
            · have k := k.2 c18
              refine aw_iconst (v := 0) d_X12_draw_64 ic_0 ?_
              exact aw_zret rfl rfl d_X12_draw_65 ⟨Nat.le_refl _, Nat.le_refl _⟩ ⟨_, rfl, k⟩
theorem t_X12_ill (d : Nat) (h : Hp_) (w : Wf h) (x1 : Int32) (x2 : Int32) (K : Int32 → Hp_ → Prop) (k : (¬ (0 ≤ x1 ∧ x1 ≤ (h_i h 1 7) - 1) → K 0 h) ∧ ((0 ≤ x1 ∧ x1 ≤ (h_i h 1 7) - 1) → vp_in x1 12 ∧ ((¬ (h_i h 208 x1.toNatClampNeg) = 4 → (¬ 0 = x2 → (¬ x2 = 0 → vp_in x1 12 ∧ ((¬ (h_i h 208 x1.toNatClampNeg) = 1 → vp_in x1 12 ∧ (vp_in x1 12 ∧ (vp_in x1 12 ∧ (vp_in x1 12 ∧ (vp_in x1 12 ∧ (vp_in x1 12 ∧ (K 1 (h_im (h_im (h_im (h_im (h_im h 208 x1.toNatClampNeg 4) 209 x1.toNatClampNeg (h_i h 206 x1.toNatClampNeg)) 210 x1.toNatClampNeg (-1)) 211 x1.toNatClampNeg (-1)) 213 x1.toNatClampNeg (-1))))))))) ∧ ((h_i h 208 x1.toNatClampNeg) = 1 → Cv (m_X12_drop (d + 1) 0 0) [.ref 1, .int x1, .int 4] h (fun h16 => Wf h16 ∧ (vp_in x1 12 ∧ (vp_in x1 12 ∧ (vp_in x1 12 ∧ (vp_in x1 12 ∧ (vp_in x1 12 ∧ (vp_in x1 12 ∧ (K 1 (h_im (h_im (h_im (h_im (h_im h16 208 x1.toNatClampNeg 4) 209 x1.toNatClampNeg (h_i h16 206 x1.toNatClampNeg)) 210 x1.toNatClampNeg (-1)) 211 x1.toNatClampNeg (-1)) 213 x1.toNatClampNeg (-1))))))))))))) ∧ (x2 = 0 → Cv (m_X12_free (d + 0) 0 0) [.ref 1, .int x1] h (fun h25 => Wf h25 ∧ (K 1 h25)))) ∧ (0 = x2 → K 0 h)) ∧ ((h_i h 208 x1.toNatClampNeg) = 4 → (¬ 1 = x2 → (¬ x2 = 0 → vp_in x1 12 ∧ ((¬ (h_i h 208 x1.toNatClampNeg) = 1 → vp_in x1 12 ∧ (vp_in x1 12 ∧ (vp_in x1 12 ∧ (vp_in x1 12 ∧ (vp_in x1 12 ∧ (vp_in x1 12 ∧ (K 1 (h_im (h_im (h_im (h_im (h_im h 208 x1.toNatClampNeg 4) 209 x1.toNatClampNeg (h_i h 206 x1.toNatClampNeg)) 210 x1.toNatClampNeg (-1)) 211 x1.toNatClampNeg (-1)) 213 x1.toNatClampNeg (-1))))))))) ∧ ((h_i h 208 x1.toNatClampNeg) = 1 → Cv (m_X12_drop (d + 1) 0 0) [.ref 1, .int x1, .int 4] h (fun h38 => Wf h38 ∧ (vp_in x1 12 ∧ (vp_in x1 12 ∧ (vp_in x1 12 ∧ (vp_in x1 12 ∧ (vp_in x1 12 ∧ (vp_in x1 12 ∧ (K 1 (h_im (h_im (h_im (h_im (h_im h38 208 x1.toNatClampNeg 4) 209 x1.toNatClampNeg (h_i h38 206 x1.toNatClampNeg)) 210 x1.toNatClampNeg (-1)) 211 x1.toNatClampNeg (-1)) 213 x1.toNatClampNeg (-1))))))))))))) ∧ (x2 = 0 → Cv (m_X12_free (d + 0) 0 0) [.ref 1, .int x1] h (fun h47 => Wf h47 ∧ (K 1 h47)))) ∧ (1 = x2 → K 0 h))))) : Ci (m_X12_ill (d + 2) 0 0) [.ref 1, .int x1, .int x2] h K := by
  refine Ct.of (fun _ _ _ => trivial) rfl (Nat.le_of_ble_eq_true rfl) ?_
  show AW (m_X12_ill (d + 2) 0 0) 0 0 0 [(0, .ref 1), (1, .int x1), (2, .int x2)] [] h (kI K)
  refine aw_aload_n (i := 0) rfl d_X12_ill_0 0 rfl ?_
  refine aw_iload_n (i := 1) rfl d_X12_ill_1 1 rfl ?_
  refine aw_Vi 1 [.int x1] [] d_X12_ill_2 (cV_X12_isMan (d + 1) 0 0) kc_12 (ws_1 w) tw_2163 rfl (rr0 (Nat.le_of_ble_eq_true rfl) (Nat.le_of_ble_eq_true rfl)) (Nat.le_of_ble_eq_true rfl) xs0 (s_X12_isMan _ _ w x1) (fun _ _ kk => ?_)
  obtain ⟨e1, e2⟩ := kk
  rw [e1, e2]
  refine aw_ifb_eq (tgt := 27) d_X12_ill_5 rfl (fun c3 => ?_) (fun c3 => ?_)
  · have k := k.1 c3
    refine aw_iconst (v := 0) d_X12_ill_27 ic_0 ?_
    exact aw_zret rfl rfl d_X12_ill_28 ⟨Nat.le_refl _, Nat.le_refl _⟩ ⟨_, rfl, k⟩
  · have k := k.2 c3
    refine aw_aload_n (i := 0) rfl d_X12_ill_8 0 rfl ?_
    refine aw_getr (k0 := 12) kc_12 (ws_1 w) (Nat.le_of_ble_eq_true rfl) tw_1754 d_X12_ill_9 rfl (wr_1_12 w) ?_
    refine aw_iload_n (i := 1) rfl d_X12_ill_12 1 rfl ?_
    obtain ⟨b4, k⟩ := k
    refine aw_iald (ws_208 w) b4 d_X12_ill_13 ?_
    refine aw_iconst (v := 4) d_X12_ill_14 ic_4 ?_
    refine aw_icmp_ne (tgt := 22) d_X12_ill_15 rfl (fun c5 => ?_) (fun c5 => ?_)
    · have k := k.1 c5
      refine aw_iconst (v := 0) d_X12_ill_22 ic_0 ?_
      refine aw_iload_n (i := 2) rfl d_X12_ill_23 2 rfl ?_
      refine aw_icmp_ne (tgt := 29) d_X12_ill_24 rfl (fun c6 => ?_) (fun c6 => ?_)
      · have k := k.1 c6
        refine aw_iload_n (i := 2) rfl d_X12_ill_29 2 rfl ?_
        refine aw_if_ne (tgt := 40) d_X12_ill_30 rfl (fun c7 => ?_) (fun c7 => ?_)
        · have k := k.1 c7
          refine aw_aload_n (i := 0) rfl d_X12_ill_40 0 rfl ?_
          refine aw_getr (k0 := 12) kc_12 (ws_1 w) (Nat.le_of_ble_eq_true rfl) tw_1754 d_X12_ill_41 rfl (wr_1_12 w) ?_
          refine aw_iload_n (i := 1) rfl d_X12_ill_44 1 rfl ?_
          obtain ⟨b8, k⟩ := k
          refine aw_iald (ws_208 w) b8 d_X12_ill_45 ?_
          refine aw_iconst (v := 1) d_X12_ill_46 ic_1 ?_
          refine aw_icmp_ne (tgt := 56) d_X12_ill_47 rfl (fun c9 => ?_) (fun c9 => ?_)
          · have k := k.1 c9
            refine aw_aload_n (i := 0) rfl d_X12_ill_56 0 rfl ?_
            refine aw_getr (k0 := 12) kc_12 (ws_1 w) (Nat.le_of_ble_eq_true rfl) tw_1754 d_X12_ill_57 rfl (wr_1_12 w) ?_
            refine aw_iload_n (i := 1) rfl d_X12_ill_60 1 rfl ?_
            refine aw_iconst (v := 4) d_X12_ill_61 ic_4 ?_
            obtain ⟨b10, k⟩ := k
            refine aw_iast (ws_208 w) b10 d_X12_ill_62 ?_
            refine aw_aload_n (i := 0) rfl d_X12_ill_63 0 rfl ?_
            refine aw_getr (k0 := 13) kc_12 (ws_1 w) (Nat.le_of_ble_eq_true rfl) tw_1755 d_X12_ill_64 rfl (wr_1_13 w) ?_
            refine aw_iload_n (i := 1) rfl d_X12_ill_67 1 rfl ?_
            refine aw_aload_n (i := 0) rfl d_X12_ill_68 0 rfl ?_
            refine aw_getr (k0 := 10) kc_12 (ws_1 w) (Nat.le_of_ble_eq_true rfl) tw_1752 d_X12_ill_69 rfl (wr_1_10 w) ?_
            refine aw_iload_n (i := 1) rfl d_X12_ill_72 1 rfl ?_
            obtain ⟨b11, k⟩ := k
            refine aw_iald (ws_206 w) b11 d_X12_ill_73 ?_
            refine aw_vi (v2 := (h_i h 206 x1.toNatClampNeg)) (rfl) ?_
            obtain ⟨b12, k⟩ := k
            refine aw_iast (ws_209 w) b12 d_X12_ill_74 ?_
            refine aw_aload_n (i := 0) rfl d_X12_ill_75 0 rfl ?_
            refine aw_getr (k0 := 14) kc_12 (ws_1 w) (Nat.le_of_ble_eq_true rfl) tw_1756 d_X12_ill_76 rfl (wr_1_14 w) ?_
            refine aw_iload_n (i := 1) rfl d_X12_ill_79 1 rfl ?_
            refine aw_iconst (v := (-1)) d_X12_ill_80 ic_m1 ?_
            obtain ⟨b13, k⟩ := k
            refine aw_iast (ws_210 w) b13 d_X12_ill_81 ?_
            refine aw_aload_n (i := 0) rfl d_X12_ill_82 0 rfl ?_
            refine aw_getr (k0 := 15) kc_12 (ws_1 w) (Nat.le_of_ble_eq_true rfl) tw_1757 d_X12_ill_83 rfl (wr_1_15 w) ?_
            refine aw_iload_n (i := 1) rfl d_X12_ill_86 1 rfl ?_
            refine aw_iconst (v := (-1)) d_X12_ill_87 ic_m1 ?_
            obtain ⟨b14, k⟩ := k
            refine aw_iast (ws_211 w) b14 d_X12_ill_88 ?_
            refine aw_aload_n (i := 0) rfl d_X12_ill_89 0 rfl ?_
            refine aw_getr (k0 := 17) kc_12 (ws_1 w) (Nat.le_of_ble_eq_true rfl) tw_1759 d_X12_ill_90 rfl (wr_1_17 w) ?_
            refine aw_iload_n (i := 1) rfl d_X12_ill_93 1 rfl ?_
            refine aw_iconst (v := (-1)) d_X12_ill_94 ic_m1 ?_
            obtain ⟨b15, k⟩ := k
            refine aw_iast (ws_213 w) b15 d_X12_ill_95 ?_
            refine aw_iconst (v := 1) d_X12_ill_96 ic_1 ?_
            exact aw_zret rfl rfl d_X12_ill_97 ⟨Nat.le_refl _, Nat.le_refl _⟩ ⟨_, rfl, k⟩
          · have k := k.2 c9
            refine aw_aload_n (i := 0) rfl d_X12_ill_50 0 rfl ?_
            refine aw_iload_n (i := 1) rfl d_X12_ill_51 1 rfl ?_
            refine aw_iconst (v := 4) d_X12_ill_52 ic_4 ?_
            refine aw_Vv 1 [.int x1, .int 4] [] d_X12_ill_53 (cV_X12_drop (d + 1) 0 0) kc_12 (ws_1 w) tw_2364 rfl (rr0 (Nat.le_of_ble_eq_true rfl) (Nat.le_of_ble_eq_true rfl)) (Nat.le_of_ble_eq_true rfl) xs0 k (fun h16 kk => ?_)
            obtain ⟨w17, k⟩ := kk
            refine aw_aload_n (i := 0) rfl d_X12_ill_56 0 rfl ?_
            refine aw_getr (k0 := 12) kc_12 (ws_1 w17) (Nat.le_of_ble_eq_true rfl) tw_1754 d_X12_ill_57 rfl (wr_1_12 w17) ?_
            refine aw_iload_n (i := 1) rfl d_X12_ill_60 1 rfl ?_
            refine aw_iconst (v := 4) d_X12_ill_61 ic_4 ?_
            obtain ⟨b19, k⟩ := k
            refine aw_iast (ws_208 w17) b19 d_X12_ill_62 ?_
            refine aw_aload_n (i := 0) rfl d_X12_ill_63 0 rfl ?_
            refine aw_getr (k0 := 13) kc_12 (ws_1 w17) (Nat.le_of_ble_eq_true rfl) tw_1755 d_X12_ill_64 rfl (wr_1_13 w17) ?_
            refine aw_iload_n (i := 1) rfl d_X12_ill_67 1 rfl ?_
            refine aw_aload_n (i := 0) rfl d_X12_ill_68 0 rfl ?_
            refine aw_getr (k0 := 10) kc_12 (ws_1 w17) (Nat.le_of_ble_eq_true rfl) tw_1752 d_X12_ill_69 rfl (wr_1_10 w17) ?_
            refine aw_iload_n (i := 1) rfl d_X12_ill_72 1 rfl ?_
            obtain ⟨b20, k⟩ := k
            refine aw_iald (ws_206 w17) b20 d_X12_ill_73 ?_
            refine aw_vi (v2 := (h_i h16 206 x1.toNatClampNeg)) (rfl) ?_
            obtain ⟨b21, k⟩ := k
            refine aw_iast (ws_209 w17) b21 d_X12_ill_74 ?_
            refine aw_aload_n (i := 0) rfl d_X12_ill_75 0 rfl ?_
            refine aw_getr (k0 := 14) kc_12 (ws_1 w17) (Nat.le_of_ble_eq_true rfl) tw_1756 d_X12_ill_76 rfl (wr_1_14 w17) ?_
            refine aw_iload_n (i := 1) rfl d_X12_ill_79 1 rfl ?_
            refine aw_iconst (v := (-1)) d_X12_ill_80 ic_m1 ?_
            obtain ⟨b22, k⟩ := k
            refine aw_iast (ws_210 w17) b22 d_X12_ill_81 ?_
            refine aw_aload_n (i := 0) rfl d_X12_ill_82 0 rfl ?_
            refine aw_getr (k0 := 15) kc_12 (ws_1 w17) (Nat.le_of_ble_eq_true rfl) tw_1757 d_X12_ill_83 rfl (wr_1_15 w17) ?_
            refine aw_iload_n (i := 1) rfl d_X12_ill_86 1 rfl ?_
            refine aw_iconst (v := (-1)) d_X12_ill_87 ic_m1 ?_
            obtain ⟨b23, k⟩ := k
            refine aw_iast (ws_211 w17) b23 d_X12_ill_88 ?_
            refine aw_aload_n (i := 0) rfl d_X12_ill_89 0 rfl ?_
            refine aw_getr (k0 := 17) kc_12 (ws_1 w17) (Nat.le_of_ble_eq_true rfl) tw_1759 d_X12_ill_90 rfl (wr_1_17 w17) ?_
            refine aw_iload_n (i := 1) rfl d_X12_ill_93 1 rfl ?_
            refine aw_iconst (v := (-1)) d_X12_ill_94 ic_m1 ?_
            obtain ⟨b24, k⟩ := k
            refine aw_iast (ws_213 w17) b24 d_X12_ill_95 ?_
            refine aw_iconst (v := 1) d_X12_ill_96 ic_1 ?_
            exact aw_zret rfl rfl d_X12_ill_97 ⟨Nat.le_refl _, Nat.le_refl _⟩ ⟨_, rfl, k⟩
        · have k := k.2 c7
          refine aw_aload_n (i := 0) rfl d_X12_ill_33 0 rfl ?_
          refine aw_iload_n (i := 1) rfl d_X12_ill_34 1 rfl ?_
          refine aw_Vv 1 [.int x1] [] d_X12_ill_35 (cV_X12_free (d + 0) 0 0) kc_12 (ws_1 w) tw_2344 rfl (rr0 (Nat.le_of_ble_eq_true rfl) (Nat.le_of_ble_eq_true rfl)) (Nat.le_of_ble_eq_true rfl) xs0 k (fun h25 kk => ?_)
          obtain ⟨w26, k⟩ := kk
          refine aw_iconst (v := 1) d_X12_ill_38 ic_1 ?_
          exact aw_zret rfl rfl d_X12_ill_39 ⟨Nat.le_refl _, Nat.le_refl _⟩ ⟨_, rfl, k⟩
      · have k := k.2 c6
        refine aw_iconst (v := 0) d_X12_ill_27 ic_0 ?_
        exact aw_zret rfl rfl d_X12_ill_28 ⟨Nat.le_refl _, Nat.le_refl _⟩ ⟨_, rfl, k⟩
    · have k := k.2 c5
      refine aw_iconst (v := 1) d_X12_ill_18 ic_1 ?_
      refine aw_goto (tgt := 23) d_X12_ill_19 rfl ?_
      refine aw_iload_n (i := 2) rfl d_X12_ill_23 2 rfl ?_
      refine aw_icmp_ne (tgt := 29) d_X12_ill_24 rfl (fun c28 => ?_) (fun c28 => ?_)
      · have k := k.1 c28
        refine aw_iload_n (i := 2) rfl d_X12_ill_29 2 rfl ?_
        refine aw_if_ne (tgt := 40) d_X12_ill_30 rfl (fun c29 => ?_) (fun c29 => ?_)
        · have k := k.1 c29
          refine aw_aload_n (i := 0) rfl d_X12_ill_40 0 rfl ?_
          refine aw_getr (k0 := 12) kc_12 (ws_1 w) (Nat.le_of_ble_eq_true rfl) tw_1754 d_X12_ill_41 rfl (wr_1_12 w) ?_
          refine aw_iload_n (i := 1) rfl d_X12_ill_44 1 rfl ?_
          obtain ⟨b30, k⟩ := k
          refine aw_iald (ws_208 w) b30 d_X12_ill_45 ?_
          refine aw_iconst (v := 1) d_X12_ill_46 ic_1 ?_
          refine aw_icmp_ne (tgt := 56) d_X12_ill_47 rfl (fun c31 => ?_) (fun c31 => ?_)
          · have k := k.1 c31
            refine aw_aload_n (i := 0) rfl d_X12_ill_56 0 rfl ?_
            refine aw_getr (k0 := 12) kc_12 (ws_1 w) (Nat.le_of_ble_eq_true rfl) tw_1754 d_X12_ill_57 rfl (wr_1_12 w) ?_
            refine aw_iload_n (i := 1) rfl d_X12_ill_60 1 rfl ?_
            refine aw_iconst (v := 4) d_X12_ill_61 ic_4 ?_
            obtain ⟨b32, k⟩ := k
            refine aw_iast (ws_208 w) b32 d_X12_ill_62 ?_
            refine aw_aload_n (i := 0) rfl d_X12_ill_63 0 rfl ?_
            refine aw_getr (k0 := 13) kc_12 (ws_1 w) (Nat.le_of_ble_eq_true rfl) tw_1755 d_X12_ill_64 rfl (wr_1_13 w) ?_
            refine aw_iload_n (i := 1) rfl d_X12_ill_67 1 rfl ?_
            refine aw_aload_n (i := 0) rfl d_X12_ill_68 0 rfl ?_
            refine aw_getr (k0 := 10) kc_12 (ws_1 w) (Nat.le_of_ble_eq_true rfl) tw_1752 d_X12_ill_69 rfl (wr_1_10 w) ?_
            refine aw_iload_n (i := 1) rfl d_X12_ill_72 1 rfl ?_
            obtain ⟨b33, k⟩ := k
            refine aw_iald (ws_206 w) b33 d_X12_ill_73 ?_
            refine aw_vi (v2 := (h_i h 206 x1.toNatClampNeg)) (rfl) ?_
            obtain ⟨b34, k⟩ := k
            refine aw_iast (ws_209 w) b34 d_X12_ill_74 ?_
            refine aw_aload_n (i := 0) rfl d_X12_ill_75 0 rfl ?_
            refine aw_getr (k0 := 14) kc_12 (ws_1 w) (Nat.le_of_ble_eq_true rfl) tw_1756 d_X12_ill_76 rfl (wr_1_14 w) ?_
            refine aw_iload_n (i := 1) rfl d_X12_ill_79 1 rfl ?_
            refine aw_iconst (v := (-1)) d_X12_ill_80 ic_m1 ?_
            obtain ⟨b35, k⟩ := k
            refine aw_iast (ws_210 w) b35 d_X12_ill_81 ?_
            refine aw_aload_n (i := 0) rfl d_X12_ill_82 0 rfl ?_
            refine aw_getr (k0 := 15) kc_12 (ws_1 w) (Nat.le_of_ble_eq_true rfl) tw_1757 d_X12_ill_83 rfl (wr_1_15 w) ?_
            refine aw_iload_n (i := 1) rfl d_X12_ill_86 1 rfl ?_
            refine aw_iconst (v := (-1)) d_X12_ill_87 ic_m1 ?_
            obtain ⟨b36, k⟩ := k
            refine aw_iast (ws_211 w) b36 d_X12_ill_88 ?_
            refine aw_aload_n (i := 0) rfl d_X12_ill_89 0 rfl ?_
            refine aw_getr (k0 := 17) kc_12 (ws_1 w) (Nat.le_of_ble_eq_true rfl) tw_1759 d_X12_ill_90 rfl (wr_1_17 w) ?_
            refine aw_iload_n (i := 1) rfl d_X12_ill_93 1 rfl ?_
            refine aw_iconst (v := (-1)) d_X12_ill_94 ic_m1 ?_
            obtain ⟨b37, k⟩ := k
            refine aw_iast (ws_213 w) b37 d_X12_ill_95 ?_
            refine aw_iconst (v := 1) d_X12_ill_96 ic_1 ?_
            exact aw_zret rfl rfl d_X12_ill_97 ⟨Nat.le_refl _, Nat.le_refl _⟩ ⟨_, rfl, k⟩
          · have k := k.2 c31
            refine aw_aload_n (i := 0) rfl d_X12_ill_50 0 rfl ?_
            refine aw_iload_n (i := 1) rfl d_X12_ill_51 1 rfl ?_
            refine aw_iconst (v := 4) d_X12_ill_52 ic_4 ?_
            refine aw_Vv 1 [.int x1, .int 4] [] d_X12_ill_53 (cV_X12_drop (d + 1) 0 0) kc_12 (ws_1 w) tw_2364 rfl (rr0 (Nat.le_of_ble_eq_true rfl) (Nat.le_of_ble_eq_true rfl)) (Nat.le_of_ble_eq_true rfl) xs0 k (fun h38 kk => ?_)
            obtain ⟨w39, k⟩ := kk
            refine aw_aload_n (i := 0) rfl d_X12_ill_56 0 rfl ?_
            refine aw_getr (k0 := 12) kc_12 (ws_1 w39) (Nat.le_of_ble_eq_true rfl) tw_1754 d_X12_ill_57 rfl (wr_1_12 w39) ?_
            refine aw_iload_n (i := 1) rfl d_X12_ill_60 1 rfl ?_
            refine aw_iconst (v := 4) d_X12_ill_61 ic_4 ?_
            obtain ⟨b41, k⟩ := k
            refine aw_iast (ws_208 w39) b41 d_X12_ill_62 ?_
            refine aw_aload_n (i := 0) rfl d_X12_ill_63 0 rfl ?_
            refine aw_getr (k0 := 13) kc_12 (ws_1 w39) (Nat.le_of_ble_eq_true rfl) tw_1755 d_X12_ill_64 rfl (wr_1_13 w39) ?_
            refine aw_iload_n (i := 1) rfl d_X12_ill_67 1 rfl ?_
            refine aw_aload_n (i := 0) rfl d_X12_ill_68 0 rfl ?_
            refine aw_getr (k0 := 10) kc_12 (ws_1 w39) (Nat.le_of_ble_eq_true rfl) tw_1752 d_X12_ill_69 rfl (wr_1_10 w39) ?_
            refine aw_iload_n (i := 1) rfl d_X12_ill_72 1 rfl ?_
            obtain ⟨b42, k⟩ := k
            refine aw_iald (ws_206 w39) b42 d_X12_ill_73 ?_
            refine aw_vi (v2 := (h_i h38 206 x1.toNatClampNeg)) (rfl) ?_
            obtain ⟨b43, k⟩ := k
            refine aw_iast (ws_209 w39) b43 d_X12_ill_74 ?_
            refine aw_aload_n (i := 0) rfl d_X12_ill_75 0 rfl ?_
            refine aw_getr (k0 := 14) kc_12 (ws_1 w39) (Nat.le_of_ble_eq_true rfl) tw_1756 d_X12_ill_76 rfl (wr_1_14 w39) ?_
            refine aw_iload_n (i := 1) rfl d_X12_ill_79 1 rfl ?_
            refine aw_iconst (v := (-1)) d_X12_ill_80 ic_m1 ?_
            obtain ⟨b44, k⟩ := k
            refine aw_iast (ws_210 w39) b44 d_X12_ill_81 ?_
            refine aw_aload_n (i := 0) rfl d_X12_ill_82 0 rfl ?_
            refine aw_getr (k0 := 15) kc_12 (ws_1 w39) (Nat.le_of_ble_eq_true rfl) tw_1757 d_X12_ill_83 rfl (wr_1_15 w39) ?_
            refine aw_iload_n (i := 1) rfl d_X12_ill_86 1 rfl ?_
            refine aw_iconst (v := (-1)) d_X12_ill_87 ic_m1 ?_
            obtain ⟨b45, k⟩ := k
            refine aw_iast (ws_211 w39) b45 d_X12_ill_88 ?_
            refine aw_aload_n (i := 0) rfl d_X12_ill_89 0 rfl ?_
            refine aw_getr (k0 := 17) kc_12 (ws_1 w39) (Nat.le_of_ble_eq_true rfl) tw_1759 d_X12_ill_90 rfl (wr_1_17 w39) ?_
            refine aw_iload_n (i := 1) rfl d_X12_ill_93 1 rfl ?_
            refine aw_iconst (v := (-1)) d_X12_ill_94 ic_m1 ?_
            obtain ⟨b46, k⟩ := k
            refine aw_iast (ws_213 w39) b46 d_X12_ill_95 ?_
            refine aw_iconst (v := 1) d_X12_ill_96 ic_1 ?_
            exact aw_zret rfl rfl d_X12_ill_97 ⟨Nat.le_refl _, Nat.le_refl _⟩ ⟨_, rfl, k⟩
        · have k := k.2 c29
          refine aw_aload_n (i := 0) rfl d_X12_ill_33 0 rfl ?_
          refine aw_iload_n (i := 1) rfl d_X12_ill_34 1 rfl ?_
          refine aw_Vv 1 [.int x1] [] d_X12_ill_35 (cV_X12_free (d + 0) 0 0) kc_12 (ws_1 w) tw_2344 rfl (rr0 (Nat.le_of_ble_eq_true rfl) (Nat.le_of_ble_eq_true rfl)) (Nat.le_of_ble_eq_true rfl) xs0 k (fun h47 kk => ?_)
          obtain ⟨w48, k⟩ := kk
          refine aw_iconst (v := 1) d_X12_ill_38 ic_1 ?_
          exact aw_zret rfl rfl d_X12_ill_39 ⟨Nat.le_refl _, Nat.le_refl _⟩ ⟨_, rfl, k⟩
      · have k := k.2 c28
        refine aw_iconst (v := 0) d_X12_ill_27 ic_0 ?_
        exact aw_zret rfl rfl d_X12_ill_28 ⟨Nat.le_refl _, Nat.le_refl _⟩ ⟨_, rfl, k⟩
theorem t_X12_constable (d : Nat) (h : Hp_) (w : Wf h) (x1 : Int32) (x2 : Int32) (x3 : Int32) (K : Int32 → Hp_ → Prop) (k : (¬ (1 ≤ x1 ∧ x1 ≤ 4) → K (-1) h) ∧ ((1 ≤ x1 ∧ x1 ≤ 4) → (¬ (0 ≤ x2 ∧ x2 ≤ 40) → K (-1) h) ∧ ((0 ≤ x2 ∧ x2 ≤ 40) → (¬ (0 ≤ x3 ∧ x3 ≤ 15) → K (-1) h) ∧ ((0 ≤ x3 ∧ x3 ≤ 15) → (¬ (h_i h 1 7) = 12 → vp_in (h_i h 1 7) 12 ∧ (vp_in (h_i h 1 7) 12 ∧ (vp_in (h_i h 1 7) 12 ∧ (vp_in (h_i h 1 7) 12 ∧ (vp_in (h_i h 1 7) 12 ∧ (vp_in (h_i h 1 7) 12 ∧ (vp_in (h_i h 1 7) 12 ∧ (vp_in (h_i h 1 7) 12 ∧ (vp_in (h_i h 1 7) 12 ∧ (vp_in (h_i h 1 7) 12 ∧ (vp_in (h_i h 1 7) 12 ∧ (vp_in (h_i h 1 7) 12 ∧ (K (((h_i h 1 7) + 1) - 1) (h_im (h_im (h_im (h_im (h_im (h_im (h_im (h_im (h_im (h_im (h_im (h_im (h_im h 204 ((h_i h 1 7) : Int32).toNatClampNeg x1) 205 ((h_i h 1 7) : Int32).toNatClampNeg x2) 206 ((h_i h 1 7) : Int32).toNatClampNeg x3) 207 ((h_i h 1 7) : Int32).toNatClampNeg (h_i h 1 0)) 208 ((h_i h 1 7) : Int32).toNatClampNeg 0) 209 ((h_i h 1 7) : Int32).toNatClampNeg x3) 210 ((h_i h 1 7) : Int32).toNatClampNeg (-1)) 211 ((h_i h 1 7) : Int32).toNatClampNeg (-1)) 213 ((h_i h 1 7) : Int32).toNatClampNeg (-1)) 215 ((h_i h 1 7) : Int32).toNatClampNeg 0) 216 ((h_i h 1 7) : Int32).toNatClampNeg 0) 217 ((h_i h 1 7) : Int32).toNatClampNeg 0) 1 7 ((h_i h 1 7) + 1))))))))))))))) ∧ ((h_i h 1 7) = 12 → K (-1) h))))) : Ci (m_X12_constable (d + 2) 0 0) [.ref 1, .int x1, .int x2, .int x3] h K := by
  refine Ct.of (fun _ _ _ => trivial) rfl (Nat.le_of_ble_eq_true rfl) ?_
  show AW (m_X12_constable (d + 2) 0 0) 0 0 0 [(0, .ref 1), (1, .int x1), (2, .int x2), (3, .int x3)] [] h (kI K)
  refine aw_iload_n (i := 1) rfl d_X12_constable_0 1 rfl ?_
  refine aw_iconst (v := 1) d_X12_constable_1 ic_1 ?_
  refine aw_iconst (v := 4) d_X12_constable_2 ic_4 ?_
  refine aw_Si [.int x1, .int 1, .int 4] [] d_X12_constable_3 (cS_X12_in (d + 0) 0 0) tw_2143 rfl (rr0 (Nat.le_of_ble_eq_true rfl) (Nat.le_of_ble_eq_true rfl)) (Nat.le_of_ble_eq_true rfl) xs0 (s_X12_in _ _ x1 1 4) (fun _ _ kk => ?_)
  obtain ⟨e1, e2⟩ := kk
  rw [e1, e2]
  refine aw_ifb_eq (tgt := 35) d_X12_constable_6 rfl (fun c3 => ?_) (fun c3 => ?_)
  · have k := k.1 c3
    refine aw_iconst (v := (-1)) d_X12_constable_35 ic_m1 ?_
    exact aw_iret rfl d_X12_constable_36 ⟨Nat.le_refl _, Nat.le_refl _⟩ ⟨_, rfl, k⟩
  · have k := k.2 c3
    refine aw_iload_n (i := 2) rfl d_X12_constable_9 2 rfl ?_
    refine aw_iconst (v := 0) d_X12_constable_10 ic_0 ?_
    refine aw_bipush (v := 40) d_X12_constable_11 ib_40 ?_
    refine aw_Si [.int x2, .int 0, .int 40] [] d_X12_constable_13 (cS_X12_in (d + 0) 0 0) tw_2143 rfl (rr0 (Nat.le_of_ble_eq_true rfl) (Nat.le_of_ble_eq_true rfl)) (Nat.le_of_ble_eq_true rfl) xs0 (s_X12_in _ _ x2 0 40) (fun _ _ kk => ?_)
    obtain ⟨e4, e5⟩ := kk
    rw [e4, e5]
    refine aw_ifb_eq (tgt := 35) d_X12_constable_16 rfl (fun c6 => ?_) (fun c6 => ?_)
    · have k := k.1 c6
      refine aw_iconst (v := (-1)) d_X12_constable_35 ic_m1 ?_
      exact aw_iret rfl d_X12_constable_36 ⟨Nat.le_refl _, Nat.le_refl _⟩ ⟨_, rfl, k⟩
    · have k := k.2 c6
      refine aw_iload_n (i := 3) rfl d_X12_constable_19 3 rfl ?_
      refine aw_Si [.int x3] [] d_X12_constable_20 (cS_X12_isPlace (d + 1) 0 0) tw_2140 rfl (rr0 (Nat.le_of_ble_eq_true rfl) (Nat.le_of_ble_eq_true rfl)) (Nat.le_of_ble_eq_true rfl) xs0 (s_X12_isPlace _ _ x3) (fun _ _ kk => ?_)
      obtain ⟨e7, e8⟩ := kk
      rw [e7, e8]
      refine aw_ifb_eq (tgt := 35) d_X12_constable_23 rfl (fun c9 => ?_) (fun c9 => ?_)
      · have k := k.1 c9
        refine aw_iconst (v := (-1)) d_X12_constable_35 ic_m1 ?_
        exact aw_iret rfl d_X12_constable_36 ⟨Nat.le_refl _, Nat.le_refl _⟩ ⟨_, rfl, k⟩
      · have k := k.2 c9
        refine aw_aload_n (i := 0) rfl d_X12_constable_26 0 rfl ?_
        refine aw_geti (k0 := 7) kc_12 (ws_1 w) (Nat.le_of_ble_eq_true rfl) tw_1749 d_X12_constable_27 rfl ?_
        refine aw_bipush (v := 12) d_X12_constable_30 ib_12 ?_
        refine aw_icmp_ne (tgt := 37) d_X12_constable_32 rfl (fun c10 => ?_) (fun c10 => ?_)
        · have k := k.1 c10
          refine aw_aload_n (i := 0) rfl d_X12_constable_37 0 rfl ?_
          refine aw_getr (k0 := 8) kc_12 (ws_1 w) (Nat.le_of_ble_eq_true rfl) tw_1750 d_X12_constable_38 rfl (wr_1_8 w) ?_
          refine aw_aload_n (i := 0) rfl d_X12_constable_41 0 rfl ?_
          refine aw_geti (k0 := 7) kc_12 (ws_1 w) (Nat.le_of_ble_eq_true rfl) tw_1749 d_X12_constable_42 rfl ?_
          refine aw_iload_n (i := 1) rfl d_X12_constable_45 1 rfl ?_
          obtain ⟨b11, k⟩ := k
          refine aw_iast (ws_204 w) b11 d_X12_constable_46 ?_
          refine aw_aload_n (i := 0) rfl d_X12_constable_47 0 rfl ?_
          refine aw_getr (k0 := 9) kc_12 (ws_1 w) (Nat.le_of_ble_eq_true rfl) tw_1751 d_X12_constable_48 rfl (wr_1_9 w) ?_
          refine aw_aload_n (i := 0) rfl d_X12_constable_51 0 rfl ?_
          refine aw_geti (k0 := 7) kc_12 (ws_1 w) (Nat.le_of_ble_eq_true rfl) tw_1749 d_X12_constable_52 rfl ?_
          refine aw_vi (v2 := (h_i h 1 7)) (rfl) ?_
          refine aw_iload_n (i := 2) rfl d_X12_constable_55 2 rfl ?_
          obtain ⟨b12, k⟩ := k
          refine aw_iast (ws_205 w) b12 d_X12_constable_56 ?_
          refine aw_aload_n (i := 0) rfl d_X12_constable_57 0 rfl ?_
          refine aw_getr (k0 := 10) kc_12 (ws_1 w) (Nat.le_of_ble_eq_true rfl) tw_1752 d_X12_constable_58 rfl (wr_1_10 w) ?_
          refine aw_aload_n (i := 0) rfl d_X12_constable_61 0 rfl ?_
          refine aw_geti (k0 := 7) kc_12 (ws_1 w) (Nat.le_of_ble_eq_true rfl) tw_1749 d_X12_constable_62 rfl ?_
          refine aw_vi (v2 := (h_i h 1 7)) (rfl) ?_
          refine aw_iload_n (i := 3) rfl d_X12_constable_65 3 rfl ?_
          obtain ⟨b13, k⟩ := k
          refine aw_iast (ws_206 w) b13 d_X12_constable_66 ?_
          refine aw_aload_n (i := 0) rfl d_X12_constable_67 0 rfl ?_
          refine aw_getr (k0 := 11) kc_12 (ws_1 w) (Nat.le_of_ble_eq_true rfl) tw_1753 d_X12_constable_68 rfl (wr_1_11 w) ?_
          refine aw_aload_n (i := 0) rfl d_X12_constable_71 0 rfl ?_
          refine aw_geti (k0 := 7) kc_12 (ws_1 w) (Nat.le_of_ble_eq_true rfl) tw_1749 d_X12_constable_72 rfl ?_
          refine aw_vi (v2 := (h_i h 1 7)) (rfl) ?_
          refine aw_aload_n (i := 0) rfl d_X12_constable_75 0 rfl ?_
          refine aw_geti (k0 := 0) kc_12 (ws_1 w) (Nat.le_of_ble_eq_true rfl) tw_1742 d_X12_constable_76 rfl ?_
          refine aw_vi (v2 := (h_i h 1 0)) (rfl) ?_
          obtain ⟨b14, k⟩ := k
          refine aw_iast (ws_207 w) b14 d_X12_constable_79 ?_
          refine aw_aload_n (i := 0) rfl d_X12_constable_80 0 rfl ?_
          refine aw_getr (k0 := 12) kc_12 (ws_1 w) (Nat.le_of_ble_eq_true rfl) tw_1754 d_X12_constable_81 rfl (wr_1_12 w) ?_
          refine aw_aload_n (i := 0) rfl d_X12_constable_84 0 rfl ?_
          refine aw_geti (k0 := 7) kc_12 (ws_1 w) (Nat.le_of_ble_eq_true rfl) tw_1749 d_X12_constable_85 rfl ?_
          refine aw_vi (v2 := (h_i h 1 7)) (rfl) ?_
          refine aw_iconst (v := 0) d_X12_constable_88 ic_0 ?_
          obtain ⟨b15, k⟩ := k
          refine aw_iast (ws_208 w) b15 d_X12_constable_89 ?_
          refine aw_aload_n (i := 0) rfl d_X12_constable_90 0 rfl ?_
          refine aw_getr (k0 := 13) kc_12 (ws_1 w) (Nat.le_of_ble_eq_true rfl) tw_1755 d_X12_constable_91 rfl (wr_1_13 w) ?_
          refine aw_aload_n (i := 0) rfl d_X12_constable_94 0 rfl ?_
          refine aw_geti (k0 := 7) kc_12 (ws_1 w) (Nat.le_of_ble_eq_true rfl) tw_1749 d_X12_constable_95 rfl ?_
          refine aw_vi (v2 := (h_i h 1 7)) (rfl) ?_
          refine aw_iload_n (i := 3) rfl d_X12_constable_98 3 rfl ?_
          obtain ⟨b16, k⟩ := k
          refine aw_iast (ws_209 w) b16 d_X12_constable_99 ?_
          refine aw_aload_n (i := 0) rfl d_X12_constable_100 0 rfl ?_
          refine aw_getr (k0 := 14) kc_12 (ws_1 w) (Nat.le_of_ble_eq_true rfl) tw_1756 d_X12_constable_101 rfl (wr_1_14 w) ?_
          refine aw_aload_n (i := 0) rfl d_X12_constable_104 0 rfl ?_
          refine aw_geti (k0 := 7) kc_12 (ws_1 w) (Nat.le_of_ble_eq_true rfl) tw_1749 d_X12_constable_105 rfl ?_
          refine aw_vi (v2 := (h_i h 1 7)) (rfl) ?_
          refine aw_iconst (v := (-1)) d_X12_constable_108 ic_m1 ?_
          obtain ⟨b17, k⟩ := k
          refine aw_iast (ws_210 w) b17 d_X12_constable_109 ?_
          refine aw_aload_n (i := 0) rfl d_X12_constable_110 0 rfl ?_
          refine aw_getr (k0 := 15) kc_12 (ws_1 w) (Nat.le_of_ble_eq_true rfl) tw_1757 d_X12_constable_111 rfl (wr_1_15 w) ?_
          refine aw_aload_n (i := 0) rfl d_X12_constable_114 0 rfl ?_
          refine aw_geti (k0 := 7) kc_12 (ws_1 w) (Nat.le_of_ble_eq_true rfl) tw_1749 d_X12_constable_115 rfl ?_
          refine aw_vi (v2 := (h_i h 1 7)) (rfl) ?_
          refine aw_iconst (v := (-1)) d_X12_constable_118 ic_m1 ?_
          obtain ⟨b18, k⟩ := k
          refine aw_iast (ws_211 w) b18 d_X12_constable_119 ?_
          refine aw_aload_n (i := 0) rfl d_X12_constable_120 0 rfl ?_
          refine aw_getr (k0 := 17) kc_12 (ws_1 w) (Nat.le_of_ble_eq_true rfl) tw_1759 d_X12_constable_121 rfl (wr_1_17 w) ?_
          refine aw_aload_n (i := 0) rfl d_X12_constable_124 0 rfl ?_
          refine aw_geti (k0 := 7) kc_12 (ws_1 w) (Nat.le_of_ble_eq_true rfl) tw_1749 d_X12_constable_125 rfl ?_
          refine aw_vi (v2 := (h_i h 1 7)) (rfl) ?_
          refine aw_iconst (v := (-1)) d_X12_constable_128 ic_m1 ?_
          obtain ⟨b19, k⟩ := k
          refine aw_iast (ws_213 w) b19 d_X12_constable_129 ?_
          refine aw_aload_n (i := 0) rfl d_X12_constable_130 0 rfl ?_
          refine aw_getr (k0 := 19) kc_12 (ws_1 w) (Nat.le_of_ble_eq_true rfl) tw_1761 d_X12_constable_131 rfl (wr_1_19 w) ?_
          refine aw_aload_n (i := 0) rfl d_X12_constable_134 0 rfl ?_
          refine aw_geti (k0 := 7) kc_12 (ws_1 w) (Nat.le_of_ble_eq_true rfl) tw_1749 d_X12_constable_135 rfl ?_
          refine aw_vi (v2 := (h_i h 1 7)) (rfl) ?_
          refine aw_iconst (v := 0) d_X12_constable_138 ic_0 ?_
          obtain ⟨b20, k⟩ := k
          refine aw_iast (ws_215 w) b20 d_X12_constable_139 ?_
          refine aw_aload_n (i := 0) rfl d_X12_constable_140 0 rfl ?_
          refine aw_getr (k0 := 20) kc_12 (ws_1 w) (Nat.le_of_ble_eq_true rfl) tw_1762 d_X12_constable_141 rfl (wr_1_20 w) ?_
          refine aw_aload_n (i := 0) rfl d_X12_constable_144 0 rfl ?_
          refine aw_geti (k0 := 7) kc_12 (ws_1 w) (Nat.le_of_ble_eq_true rfl) tw_1749 d_X12_constable_145 rfl ?_
          refine aw_vi (v2 := (h_i h 1 7)) (rfl) ?_
          refine aw_iconst (v := 0) d_X12_constable_148 ic_0 ?_
          obtain ⟨b21, k⟩ := k
          refine aw_iast (ws_216 w) b21 d_X12_constable_149 ?_
          refine aw_aload_n (i := 0) rfl d_X12_constable_150 0 rfl ?_
          refine aw_getr (k0 := 21) kc_12 (ws_1 w) (Nat.le_of_ble_eq_true rfl) tw_1763 d_X12_constable_151 rfl (wr_1_21 w) ?_
          refine aw_aload_n (i := 0) rfl d_X12_constable_154 0 rfl ?_
          refine aw_geti (k0 := 7) kc_12 (ws_1 w) (Nat.le_of_ble_eq_true rfl) tw_1749 d_X12_constable_155 rfl ?_
          refine aw_vi (v2 := (h_i h 1 7)) (rfl) ?_
          refine aw_iconst (v := 0) d_X12_constable_158 ic_0 ?_
          obtain ⟨b22, k⟩ := k
          refine aw_iast (ws_217 w) b22 d_X12_constable_159 ?_
          refine aw_aload_n (i := 0) rfl d_X12_constable_160 0 rfl ?_
          refine aw_dup d_X12_constable_161 rfl ?_
          refine aw_geti (k0 := 7) kc_12 (ws_1 w) (Nat.le_of_ble_eq_true rfl) tw_1749 d_X12_constable_162 rfl ?_
          refine aw_vi (v2 := (h_i h 1 7)) (rfl) ?_
          refine aw_iconst (v := 1) d_X12_constable_165 ic_1 ?_
          refine aw_iadd d_X12_constable_166 ?_
          refine aw_puti (k0 := 7) kc_12 (ws_1 w) (Nat.le_of_ble_eq_true rfl) tw_1749 d_X12_constable_167 rfl rfl nf_i ?_
          refine aw_aload_n (i := 0) rfl d_X12_constable_170 0 rfl ?_
          refine aw_geti (k0 := 7) kc_12 (ws_1 w) (Nat.le_of_ble_eq_true rfl) tw_1749 d_X12_constable_171 rfl ?_
          refine aw_vi (v2 := ((h_i h 1 7) + 1)) (rfl) ?_
          refine aw_iconst (v := 1) d_X12_constable_174 ic_1 ?_
          refine aw_isub d_X12_constable_175 ?_
          exact aw_iret rfl d_X12_constable_176 ⟨Nat.le_refl _, Nat.le_refl _⟩ ⟨_, rfl, k⟩
        · have k := k.2 c10
          refine aw_iconst (v := (-1)) d_X12_constable_35 ic_m1 ?_
          exact aw_iret rfl d_X12_constable_36 ⟨Nat.le_refl _, Nat.le_refl _⟩ ⟨_, rfl, k⟩
end
section
/-! wake and tick of the reference -/
/-- at a step that is over: room for the points behind it -/
def Hs (h : Hp_) (c : Nat) : Prop := 0 ≤ (h_i h 213 c).toInt ∧ nS h c < nZ h c ∧ (h_i h 212 c).toInt < (h_i h 1 42).toInt ∧ h_i h 210 c = -1
theorem Gs_m {c : Nat} {h h' : Hp_} {x : Int32} (g : Hs h c) (m : Mo c h h') (e2 : h_i h' 212 c = h_i h 212 c) (e3 : h_i h' 213 c = x) (e4 : h_i h' 210 c = h_i h 210 c) (ex : x.toInt = (h_i h 213 c).toInt + 1)
    (er : (h_i h' 216 c).toInt + (mP (h_i h 228) (nB h c) (nZ h c - (nS h c + 1)) (nS h c + 1) : Int) ≤ 400) : Gs h' c := by
  have ez : nZ h' c = nZ h c := by show (h_i h' 227 (h_i h' 212 c).toNatClampNeg).toNatClampNeg = _; rw [e2, m.2.1]
  have eb : nB h' c = nB h c := by show (h_i h' 212 c).toNatClampNeg = _; rw [e2]
  have s0 := g.1
  have l := g.2.1
  have es : nS h' c = nS h c + 1 := by
    show (h_i h' 213 c).toNatClampNeg = (h_i h 213 c).toNatClampNeg + 1
    have a := n_nat (x := h_i h 213 c) s0
    have b := n_nat (x := x) (by omega)
    rw [e3]
    omega
  unfold Gs
  rw [ez, es, eb, e2, e3, e4, m.wh, m.b42]
  exact ⟨by omega, by omega, g.2.2.1, er, g.2.2.2⟩
theorem st_in {h : Hp_} (I : Iv h) {c : Nat} (g : Hs h c) {x : Int32} (ex : x = h_i h 213 c + 1) : x.toInt = (h_i h 213 c).toInt + 1 ∧ rin x.toInt (-1, 150) := by
  have t1 : (1 : Int32).toInt = 1 := rfl
  have zz := dp_rg I 227 (nB h c) (show tfa 227 = some (0, 150) by decide +kernel)
  have nz := n_nat (x := h_i h 227 (nB h c)) zz.1
  have z1 : (h_i h 227 (nB h c)).toInt ≤ 150 := zz.2
  have ns := n_nat (x := h_i h 213 c) g.1
  have s0 := g.1
  have l : (h_i h 213 c).toNatClampNeg < (h_i h 227 (nB h c)).toNatClampNeg := g.2.1
  have e : x.toInt = (h_i h 213 c).toInt + 1 := by rw [ex, tx_add (by rw [t1]; omega) (by rw [t1]; omega), t1]
  exact ⟨e, by show (-1 : Int) ≤ _; omega, by show _ ≤ (150 : Int); omega⟩
theorem wb_ix {h : Hp_} (I : Iv h) {c : Nat} (g : Hs h c) : (150 * h_i h 212 c + h_i h 213 c).toNatClampNeg = 150 * nB h c + nS h c ∧ vp_in (150 * h_i h 212 c + h_i h 213 c) 1800 := by
  have t150 : (150 : Int32).toInt = 150 := rfl
  have bb := dp_rg I 212 c (show tfa 212 = some (0, 11) by decide +kernel)
  have b0 : 0 ≤ (h_i h 212 c).toInt := bb.1
  have b1 : (h_i h 212 c).toInt ≤ 11 := bb.2
  have zz := dp_rg I 227 (nB h c) (show tfa 227 = some (0, 150) by decide +kernel)
  have nz := n_nat (x := h_i h 227 (nB h c)) zz.1
  have z1 : (h_i h 227 (nB h c)).toInt ≤ 150 := zz.2
  have nb := n_nat (x := h_i h 212 c) b0
  have ns := n_nat (x := h_i h 213 c) g.1
  have s0 := g.1
  have l : (h_i h 213 c).toNatClampNeg < (h_i h 227 (nB h c)).toNatClampNeg := g.2.1
  have m1 : (150 * h_i h 212 c).toInt = 150 * (h_i h 212 c).toInt := by rw [tx_mul (by rw [t150]; omega) (by rw [t150]; omega), t150]
  have m2 : (150 * h_i h 212 c + h_i h 213 c).toInt = 150 * (h_i h 212 c).toInt + (h_i h 213 c).toInt := by rw [tx_add (by omega) (by omega), m1]
  have nn := n_nat (x := 150 * h_i h 212 c + h_i h 213 c) (by omega)
  refine ⟨by show _ = 150 * (h_i h 212 c).toNatClampNeg + (h_i h 213 c).toNatClampNeg; omega, dp_in (lo := 0) (hi := 1799) ⟨by show (0 : Int) ≤ _; omega, by show _ ≤ (1799 : Int); omega⟩ (by decide) (by decide)⟩
theorem c_wakeBeat (d : Nat) {h : Hp_} (I : Iv h) (x1 x2 : Int32) (b1 : rin x1.toInt (0, 11)) (d1 : h_i h 208 x1.toNatClampNeg = 1) (g : Hs h x1.toNatClampNeg)
    (p1 : (h_i h 216 x1.toNatClampNeg).toInt + (mP (h_i h 228) (nB h x1.toNatClampNeg) (nZ h x1.toNatClampNeg - (nS h x1.toNatClampNeg + 1)) (nS h x1.toNatClampNeg + 1) : Int) ≤ 400) (p2 : ¬ x2 = 0 → (h_i h 216 x1.toNatClampNeg).toInt + (mP (h_i h 228) (nB h x1.toNatClampNeg) (nZ h x1.toNatClampNeg - nS h x1.toNatClampNeg) (nS h x1.toNatClampNeg) : Int) ≤ 400) :
    Cv (m_X12_wakeBeat (d + 8) 0 0) [.ref 1, .int x1, .int x2] h (fun h' => Iv h' ∧ Mo x1.toNatClampNeg h h' ∧ Jm h' x1.toNatClampNeg) := by
  have v1 := dp_in b1 (n := 12) (by decide) (by decide)
  obtain ⟨ix, vi⟩ := wb_ix I g
  have go : ∀ (h2 : Hp_) (x : Int32), Iv h2 → Mo x1.toNatClampNeg h h2 → h_i h2 208 x1.toNatClampNeg = 1 → h_i h2 212 x1.toNatClampNeg = h_i h 212 x1.toNatClampNeg → h_i h2 213 x1.toNatClampNeg = h_i h 213 x1.toNatClampNeg → h_i h2 210 x1.toNatClampNeg = h_i h 210 x1.toNatClampNeg → (h_i h2 216 x1.toNatClampNeg).toInt + (mP (h_i h 228) (nB h x1.toNatClampNeg) (nZ h x1.toNatClampNeg - (nS h x1.toNatClampNeg + 1)) (nS h x1.toNatClampNeg + 1) : Int) ≤ 400 → x = h_i h2 213 x1.toNatClampNeg + 1 →
      Cv (m_X12_goOn (d + 3) 0 0) [.ref 1, .int x1] (h_im h2 213 x1.toNatClampNeg x) (fun h' => Wf h' ∧ (Iv h' ∧ Mo x1.toNatClampNeg h h' ∧ Jm h' x1.toNatClampNeg)) := by
    intro h2 x I2 M2 e1 e2 e3 e4 e5 ex
    rw [e3] at ex
    obtain ⟨exi, exr⟩ := st_in I g ex
    have M3 : Mo x1.toNatClampNeg h (h_im h2 213 x1.toNatClampNeg x) := M2.im (by decide) (fun _ => rfl)
    have G3 : Gs (h_im h2 213 x1.toNatClampNeg x) x1.toNatClampNeg := Gs_m g M3 (by rw [im_ne (by decide)]; exact e2) im_at (by rw [im_ne (by decide)]; exact e4) exi (by rw [im_ne (by decide)]; exact e5)
    have f1 : h_i (h_im h2 213 x1.toNatClampNeg x) 208 x1.toNatClampNeg = 1 := by rw [im_ne (by decide)]; exact e1
    exact Cv.mono (c_goOn d (i213 I2 _ exr) x1 b1 (fun n => absurd f1 n) (fun _ => G3)) (fun h' q => ⟨q.1.1, q.1, M3.tr q.2.1, q.2.2⟩)
  have tr := t_X12_wakeBeat d h I.1 x1 x2 (fun h' => Iv h' ∧ Mo x1.toNatClampNeg h h' ∧ Jm h' x1.toNatClampNeg)
  rw [ix] at tr
  have g0 := go h _ I (Mo.rf _ _) d1 rfl rfl rfl p1 rfl
  refine tr ⟨v1, v1, fun _ => ⟨vi, fun _ => ⟨v1, v1, g0⟩, fun _ => ?_⟩, fun x2n => ⟨vi, fun _ => ⟨v1, v1, g0⟩, fun w2 => ⟨vi, ?_⟩⟩⟩
  · refine Ct.mono (hc_X12_see (d + 1) [.int x1, .ref 1] h ⟨⟨x1, rfl, b1, fun _ y => (nomatch y)⟩, rfl, trivial⟩ I (fun _ y => (nomatch y))) (fun v h2 k => ?_)
    obtain ⟨I2, F2, _, ev⟩ := k
    have S2 : So x1.toNatClampNeg h h2 := So.fr F2 (by decide +kernel)
    refine ⟨ev, I2.1, v1, v1, go h2 _ I2 (Mo.fr F2 (by decide +kernel)) (by rw [S2.1]; exact d1) S2.2.1 S2.2.2.1 (fr_i F2 (a := 210) (by decide +kernel) _) (by rw [S2.2.2.2]; exact p1) rfl⟩
  · have q2 := p2 x2n
    rw [mP_s g.2.1, if_pos w2] at q2
    refine Ci.mono (c_comes d I x1 _ b1 (by omega)) (fun r h2 C => ⟨C.1.1, fun _ => ⟨v1, v1, go h2 _ C.1 C.2.1 (by rw [C.2.2.1.1]; exact d1) C.2.2.1.2.1 C.2.2.1.2.2.1 C.2.2.1.2.2.2 (by rw [C.2.2.2]; omega) rfl⟩, fun _ => ⟨C.1, C.2.1, ?_⟩⟩)
    have f2 := C.2.2.1.2.1
    have f3 := C.2.2.1.2.2.1
    have f4 : h_i h2 210 x1.toNatClampNeg = -1 := by rw [C.2.2.1.2.2.2]; exact g.2.2.2
    have ez : nZ h2 x1.toNatClampNeg = nZ h x1.toNatClampNeg := by show (h_i h2 227 (h_i h2 212 x1.toNatClampNeg).toNatClampNeg).toNatClampNeg = _; rw [f2, C.2.1.2.1]
    have es : nS h2 x1.toNatClampNeg = nS h x1.toNatClampNeg := by show (h_i h2 213 x1.toNatClampNeg).toNatClampNeg = _; rw [f3]
    have eb : nB h2 x1.toNatClampNeg = nB h x1.toNatClampNeg := by show (h_i h2 212 x1.toNatClampNeg).toNatClampNeg = _; rw [f2]
    refine ⟨fun _ => f4, fun _ => ?_⟩
    rw [ez, es, eb, f2, f3, C.2.1.wh, C.2.1.b42, C.2.2.2]
    exact ⟨g.1, g.2.1, g.2.2.1, by omega, fun z => absurd f4 z⟩
theorem i248 {h : Hp_} (I : Iv h) (k : Nat) : Iv (h_im h 248 k (vp_nar .boolean 1)) := I.im (by rw [tfa_tf (show tfa 248 = some (0, 1) by decide +kernel)]; exact ⟨by decide, by decide⟩) (jw_jr (by decide) (by decide) _)
/-- the same man, the same account -/
theorem Jm_s {c : Nat} {h h' : Hp_} (m : Mo c h h') (o : So c h h') (e : h_i h' 210 c = h_i h 210 c) (j : Jm h c) : Jm h' c := by
  obtain ⟨_, ez, es, eb⟩ := Gs_f m o
  unfold Jm
  rw [ez, es, eb, o.1, o.2.1, o.2.2.1, o.2.2.2, m.wh, m.b42, e]
  exact j
theorem c_wake (d : Nat) {h : Hp_} (I : Iv h) (x1 : Int32) (b1 : rin x1.toInt (0, 11)) (j : Jm h x1.toNatClampNeg) : Cv (m_X12_wake (d + 9) 0 0) [.ref 1, .int x1] h (fun h' => Iv h' ∧ Mo x1.toNatClampNeg h h' ∧ Jm h' x1.toNatClampNeg) := by
  have v1 := dp_in b1 (n := 12) (by decide) (by decide)
  have fin : ∀ (s0 : Int32), (s0 = 0 → h_i h 210 x1.toNatClampNeg = -1) → (¬ s0 = 0 → ¬ h_i h 210 x1.toNatClampNeg = -1) → AW (m_X12_wake (d + 9) 0 0) 0 0 29 [(0, .ref 1), (1, .int x1)] [.int s0] h (kV (fun h' => Iv h' ∧ Mo x1.toNatClampNeg h h' ∧ Jm h' x1.toNatClampNeg)) := by
    intro s0 z0 z1
    have gb := dp_rg I 210 x1.toNatClampNeg (show tfa 210 = some (-1, 15) by decide +kernel)
    have IA := i211 I x1.toNatClampNeg (-1)
    have MA : Mo x1.toNatClampNeg h (h_im h 211 x1.toNatClampNeg (-1)) := (Mo.rf _ _).im (by decide) (fun y => absurd y (by decide))
    have SA : So x1.toNatClampNeg h (h_im h 211 x1.toNatClampNeg (-1)) := (So.rf _ _).im (by decide)
    have IB := i211 (i210 (i209 I x1.toNatClampNeg gb) x1.toNatClampNeg m1_in) x1.toNatClampNeg (-1)
    have MB : Mo x1.toNatClampNeg h (h_im (h_im (h_im h 209 x1.toNatClampNeg (h_i h 210 x1.toNatClampNeg)) 210 x1.toNatClampNeg (-1)) 211 x1.toNatClampNeg (-1)) := (((Mo.rf _ _).im (by decide) (fun y => absurd y (by decide))).im (by decide) (fun _ => rfl)).im (by decide) (fun y => absurd y (by decide))
    have SB : So x1.toNatClampNeg h (h_im (h_im (h_im h 209 x1.toNatClampNeg (h_i h 210 x1.toNatClampNeg)) 210 x1.toNatClampNeg (-1)) 211 x1.toNatClampNeg (-1)) := (((So.rf _ _).im (by decide)).im (by decide)).im (by decide)
    have gB : h_i (h_im (h_im (h_im h 209 x1.toNatClampNeg (h_i h 210 x1.toNatClampNeg)) 210 x1.toNatClampNeg (-1)) 211 x1.toNatClampNeg (-1)) 210 x1.toNatClampNeg = -1 := by rw [im_ne (by decide), im_at]
    have gA : h_i (h_im h 211 x1.toNatClampNeg (-1)) 210 x1.toNatClampNeg = h_i h 210 x1.toNatClampNeg := im_ne (by decide)
    have wrap : ∀ {y : MethodName} {cc : ByteArray} {nL : Nat} {ret : Option FieldType} {R : Room} {vs : List Value} {h2 : Hp_}, Mo x1.toNatClampNeg h h2 → Cv (fun _ _ _ => True, y, cc, nL, ret, R) vs h2 (fun h' => Iv h' ∧ Mo x1.toNatClampNeg h2 h' ∧ Jd h' x1.toNatClampNeg) → Cv (fun _ _ _ => True, y, cc, nL, ret, R) vs h2 (fun h' => Wf h' ∧ (Iv h' ∧ Mo x1.toNatClampNeg h h' ∧ Jm h' x1.toNatClampNeg)) := fun M2 C => Cv.mono C (fun h' q => ⟨q.1.1, q.1, M2.tr q.2.1, q.2.2.jm⟩)
    have wfree : ∀ {h2 : Hp_}, Iv h2 → Mo x1.toNatClampNeg h h2 → Cv (m_X12_free (d + 0) 0 0) [.ref 1, .int x1] h2 (fun h' => Wf h' ∧ (Iv h' ∧ Mo x1.toNatClampNeg h h' ∧ Jm h' x1.toNatClampNeg)) := fun I2 M2 => Cv.mono (c_free d I2 x1 b1) (fun h' q => ⟨q.1.1, q.1, M2.tr q.2.1, Jd.jm ⟨by rw [q.2.2.1]; decide, fun _ => q.2.2.2⟩⟩)
    have bt : ∀ {h2 : Hp_}, Iv h2 → Mo x1.toNatClampNeg h h2 → So x1.toNatClampNeg h h2 → h_i h2 210 x1.toNatClampNeg = -1 → h_i h 208 x1.toNatClampNeg = 1 → Cv (m_X12_wakeBeat (d + 8) 0 0) [.ref 1, .int x1, .int s0] h2 (fun h' => Wf h' ∧ (Iv h' ∧ Mo x1.toNatClampNeg h h' ∧ Jm h' x1.toNatClampNeg)) := by
      intro h2 I2 M2 S2 e2 d1
      obtain ⟨j1, j2, j3, j4, j5⟩ := j.2 d1
      obtain ⟨_, ez, es, eb⟩ := Gs_f M2 S2
      refine Cv.mono (c_wakeBeat d I2 x1 s0 b1 (by rw [S2.1]; exact d1) ⟨by rw [S2.2.2.1]; exact j1, by rw [es, ez]; exact j2, by rw [S2.2.1, M2.b42]; exact j3, e2⟩ ?_ (fun z => ?_)) (fun h' q => ⟨q.1.1, q.1, M2.tr q.2.1, q.2.2⟩)
      · rw [ez, es, eb, S2.2.2.2, M2.wh]; exact j4
      · rw [ez, es, eb, S2.2.2.2, M2.wh]; exact j5 (z1 z)
    refine t_X12_wake_29 d h I.1 x1 s0 _ ⟨fun e0 => ⟨v1, v1, fun n2 => ⟨v1, fun n3 => ⟨v1, fun n1 => ⟨IA, MA, Jm_s MA SA gA j⟩, fun d1 => bt IA MA SA (by rw [gA]; exact z0 e0) d1⟩, fun d3 => ⟨fun n => absurd e0 n, fun _ => wrap MA (c_goHome d IA x1 b1)⟩⟩, fun _ => wfree IA MA⟩, fun n0 => ⟨v1, v1, v1, v1, v1, fun n2 => ⟨v1, fun n3 => ⟨v1, fun n1 => ⟨IB, MB, ⟨fun _ => gB, fun z => absurd (by rw [← SB.1]; exact z) n1⟩⟩, fun d1 => bt IB MB SB gB d1⟩, fun d3 => ⟨fun _ => ⟨v1, v1, fun _ => ⟨v1, ?_⟩, fun _ => ⟨v1, fun _ => ⟨v1, ?_⟩, fun _ => ?_⟩⟩, fun e0 => absurd e0 n0⟩⟩, fun _ => wfree IB MB⟩⟩
    · exact wrap (MB.im (by decide) (fun y => absurd y (by decide))) (c_goDrawn d (i248 IB _) x1 b1 (by rw [im_ne (by decide), SB.1, d3]; exact ⟨by decide, by decide⟩))
    · exact wrap (MB.im (by decide) (fun y => absurd y (by decide))) (c_goDrawn d (i248 IB _) x1 b1 (by rw [im_ne (by decide), SB.1, d3]; exact ⟨by decide, by decide⟩))
    · exact wrap MB (c_stay d IB x1 b1 (by rw [SB.1, d3]; exact ⟨by decide, by decide⟩))
  exact t_X12_wake d h I.1 x1 _ ⟨v1, fun _ => ⟨v1, fun e => fin 0 (fun _ => e) (fun n => absurd rfl n), fun n => fin 1 (fun z => absurd z (by decide)) (fun _ => n)⟩, fun _ => ⟨I, Mo.rf _ _, j⟩⟩
end
section
/-! tick of the reference -/
def J2 (h : Hp_) : Prop := ∀ c : Nat, c < 12 → (c : Int) < (h_i h 1 7).toInt → Jm h c
theorem J2_o {c : Nat} {h h' : Hp_} (m : Mo c h h') (J : J2 h) (j : Jm h' c) : J2 h' := fun k hk hm => by
  by_cases e : k = c
  · rw [e]; exact j
  · exact Jm_o m e (J k hk (by rw [← m.2.2.2.1 7 (Or.inr (Or.inl rfl))]; exact hm))
/-- what Jm looks at stays -/
def Jz (h h' : Hp_) : Prop := (∀ a, mrow a = true → ∀ k, h_i h' a k = h_i h a k) ∧ (∀ k, h_i h' 227 k = h_i h 227 k) ∧ (∀ k, h_i h' 228 k = h_i h 228 k) ∧ h_i h' 1 42 = h_i h 1 42
theorem Jm_z {h h' : Hp_} {c : Nat} (e : Jz h h') (J : Jm h c) : Jm h' c := by
  have f := fun (a : Nat) (ha : mrow a = true) => e.1 a ha c
  have ez : nZ h' c = nZ h c := by show (h_i h' 227 (h_i h' 212 c).toNatClampNeg).toNatClampNeg = _; rw [f 212 rfl, e.2.1]
  have es : nS h' c = nS h c := by show (h_i h' 213 c).toNatClampNeg = _; rw [f 213 rfl]
  have eb : nB h' c = nB h c := by show (h_i h' 212 c).toNatClampNeg = _; rw [f 212 rfl]
  have w : h_i h' 228 = h_i h 228 := funext e.2.2.1
  unfold Jm
  rw [ez, es, eb, f 208 rfl, f 210 rfl, f 212 rfl, f 213 rfl, f 216 rfl, w, e.2.2.2]
  exact J
/-- what J2 looks at stays -/
def Js (h h' : Hp_) : Prop := Jz h h' ∧ h_i h' 1 7 = h_i h 1 7
theorem J2_s {h h' : Hp_} (e : Js h h') (J : J2 h) : J2 h' := fun c hc hm => Jm_z e.1 (J c hc (by rw [← e.2]; exact hm))
theorem Jz.im {h : Hp_} {a k : Nat} {x : Int32} (n : (mrow a || Nat.beq a 227 || Nat.beq a 228) = false) (n1 : ¬ (a = 1 ∧ k = 42)) : Jz h (h_im h a k x) := by
  simp only [Bool.or_eq_false_iff] at n
  have b : ∀ {y : Nat}, Nat.beq a y = false → y ≠ a := fun {y} z e => by rw [e, Nat.beq_refl] at z; cases z
  refine ⟨fun r hr j => im_ne (fun e => by rw [e, n.1.1] at hr; cases hr), fun j => im_ne (b n.1.2), fun j => im_ne (b n.2), ?_⟩
  rw [h_i_im, if_neg (fun e => n1 ⟨e.1.symm, e.2.symm⟩)]
theorem Js.im {h : Hp_} {a k : Nat} {x : Int32} (n : (mrow a || Nat.beq a 227 || Nat.beq a 228) = false) (n1 : ¬ (a = 1 ∧ (k = 42 ∨ k = 7))) : Js h (h_im h a k x) := ⟨Jz.im n (fun e => n1 ⟨e.1, Or.inl e.2⟩), by rw [h_i_im, if_neg (fun e => n1 ⟨e.1.symm, Or.inr e.2.symm⟩)]⟩
def tK2 (h0 : Hp_) (F : Int) : Option Value → Hp_ → Prop := kI (fun r h' => Iv h' ∧ J2 h' ∧ Fr wsT h0 h' ∧ r = h_i h' 1 0 ∧ (h_i h' 1 0).toInt = F)
theorem men_in {h : Hp_} (I : Iv h) : rin (h_i h 1 7).toInt (0, 12) := by
  have := I.2.1 1 7
  rwa [show tf 1 7 = (0, 12) by decide +kernel] at this
theorem tw_loop {F : Int} (d : Nat) (h0 : Hp_) (x1 x2 : Int32) (y : Int32) (O : ∀ h, Iv h → J2 h → Fr wsT h0 h → h_i h 1 0 = y → AW (m_X12_tick (d + 10) 0 0) 0 0 27 [(0, .ref 1), (1, .int x1), (2, .int (x2 + 1))] [] h (tK2 h0 F)) :
    ∀ (r : Nat) (x3 : Int32) (h : Hp_), 0 ≤ x3.toInt → 12 - x3.toInt ≤ r → Iv h → J2 h → Fr wsT h0 h → h_i h 1 0 = y → AW (m_X12_tick (d + 10) 0 0) 0 0 82 [(0, .ref 1), (1, .int x1), (2, .int x2), (3, .int x3)] [] h (tK2 h0 F) := by
  have t1 : (1 : Int32).toInt = 1 := rfl
  intro r
  induction r with
  | zero =>
    intro x3 h p3 m3 I J S ey
    have e7 : (h_i h 1 7).toInt ≤ 12 := (men_in I).2
    refine t_X12_tick_82 d h I.1 x1 x2 x3 _ ⟨fun _ => O h I J S ey, fun z => ?_⟩
    have z := q_nle z
    omega
  | succ r ih =>
    intro x3 h p3 m3 I J S ey
    have e7 : (h_i h 1 7).toInt ≤ 12 := (men_in I).2
    refine t_X12_tick_82 d h I.1 x1 x2 x3 _ ⟨fun _ => O h I J S ey, fun z => ?_⟩
    have z := q_nle z
    have b3 : rin x3.toInt (0, 11) := ⟨p3, by show _ ≤ (11 : Int); omega⟩
    have n3 := n_nat (x := x3) p3
    have ex : (x3 + 1).toInt = x3.toInt + 1 := tx_add (by rw [t1]; omega) (by rw [t1]; omega)
    exact Cv.mono (c_wake d I x3 b3 (J _ (by omega) (by omega))) (fun h' q => ⟨q.1.1, ih (x3 + 1) h' (by omega) (by omega) q.1 (J2_o q.2.1 J q.2.2) (S.tr q.2.1.sr.st) (by rw [q.2.1.2.2.2.1 0 (Or.inl rfl)]; exact ey)⟩)
theorem i220 {h : Hp_} (I : Iv h) (k : Nat) (x : Int32) : Iv (h_im h 220 k (vp_nar .byte x.toInt8.toInt32)) := I.im (by rw [tfa_tf (show tfa 220 = some (-128, 127) by decide +kernel)]; exact ok_b _ rtop (rtop_in _)) (jw_jr (by decide) (by decide) _)
theorem th_loop {F : Int} (d : Nat) (h0 : Hp_) (x1 x2 : Int32) (y : Int32) (hy : rin y.toInt (0, 19999)) (O : ∀ h, Iv h → J2 h → Fr wsT h0 h → h_i h 1 0 = y + 1 → AW (m_X12_tick (d + 10) 0 0) 0 0 27 [(0, .ref 1), (1, .int x1), (2, .int (x2 + 1))] [] h (tK2 h0 F)) :
    ∀ (r : Nat) (x3 : Int32) (h : Hp_), 0 ≤ x3.toInt → 12 - x3.toInt ≤ r → Iv h → J2 h → Fr wsT h0 h → h_i h 1 0 = y → AW (m_X12_tick (d + 10) 0 0) 0 0 34 [(0, .ref 1), (1, .int x1), (2, .int x2), (3, .int x3)] [] h (tK2 h0 F) := by
  have t1 : (1 : Int32).toInt = 1 := rfl
  have tb : (20001 : Int32).toInt = 20001 := rfl
  have y0 : 0 ≤ y.toInt := hy.1
  have y1 : y.toInt ≤ 19999 := hy.2
  have ey1 : (y + 1).toInt = y.toInt + 1 := tx_add (by rw [t1]; omega) (by rw [t1]; omega)
  have fin : ∀ h, Iv h → J2 h → Fr wsT h0 h → h_i h 1 0 = y → AW (m_X12_tick (d + 10) 0 0) 0 0 82 [(0, .ref 1), (1, .int x1), (2, .int x2), (3, .int 0)] [] (h_im h 1 0 ((h_i h 1 0) + 1)) (tK2 h0 F) := by
    intro h I J S ey
    rw [ey]
    have I2 : Iv (h_im h 1 0 (y + 1)) := I.im (by rw [show tf 1 0 = (0, 20000) by decide +kernel]; exact ⟨by show (0 : Int) ≤ _; omega, by show _ ≤ (20000 : Int); omega⟩) (by decide)
    exact tw_loop d h0 x1 x2 (y + 1) O 12 0 _ (by decide) (by decide) I2 (J2_s (Js.im (by decide) (fun z => absurd z.2 (by decide))) J) (S.im (by decide +kernel)) im_at
  intro r
  induction r with
  | zero =>
    intro x3 h p3 m3 I J S ey
    have e7 : (h_i h 1 7).toInt ≤ 12 := (men_in I).2
    refine t_X12_tick_34 d h I.1 x1 x2 x3 _ ⟨fun _ => fin h I J S ey, fun z => ?_⟩
    have z := q_nle z
    omega
  | succ r ih =>
    intro x3 h p3 m3 I J S ey
    have e7 : (h_i h 1 7).toInt ≤ 12 := (men_in I).2
    refine t_X12_tick_34 d h I.1 x1 x2 x3 _ ⟨fun _ => fin h I J S ey, fun z => ?_⟩
    have z := q_nle z
    have ex : (x3 + 1).toInt = x3.toInt + 1 := tx_add (by rw [t1]; omega) (by rw [t1]; omega)
    have m1 : (20001 * x3).toInt = 20001 * x3.toInt := by rw [tx_mul (by rw [tb]; omega) (by rw [tb]; omega), tb]
    have m2 : (20001 * x3 + h_i h 1 0).toInt = 20001 * x3.toInt + y.toInt := by rw [ey, tx_add (by omega) (by omega), m1]
    refine ⟨dp_in (lo := 0) (hi := 11) ⟨p3, by show _ ≤ (11 : Int); omega⟩ (by decide) (by decide), dp_in (lo := 0) (hi := 240011) ⟨by show (0 : Int) ≤ _; omega, by show _ ≤ (240011 : Int); omega⟩ (by decide) (by decide), ?_⟩
    exact ih (x3 + 1) _ (by omega) (by omega) (i220 I _ _) (J2_s (Js.im (by decide) (fun z => absurd z.1 (by decide))) J) (S.im (inw_row (by decide +kernel) _)) (by rw [im_ne (by decide)]; exact ey)
theorem to_loop {F : Int} (d : Nat) (h0 : Hp_) (x1 : Int32) (b1 : rin x1.toInt (0, 1500)) : ∀ (r : Nat) (x2 y : Int32) (h : Hp_), 0 ≤ x2.toInt → x1.toInt - x2.toInt ≤ r → 0 ≤ y.toInt → (y.toInt + (x1.toInt - x2.toInt) ≤ 20000 ∧ x2.toInt ≤ x1.toInt ∧ y.toInt + (x1.toInt - x2.toInt) = F) → Iv h → J2 h → Fr wsT h0 h → h_i h 1 0 = y → AW (m_X12_tick (d + 10) 0 0) 0 0 27 [(0, .ref 1), (1, .int x1), (2, .int x2)] [] h (tK2 h0 F) := by
  have t1 : (1 : Int32).toInt = 1 := rfl
  have c0 : 0 ≤ x1.toInt := b1.1
  have c1 : x1.toInt ≤ 1500 := b1.2
  intro r
  induction r with
  | zero =>
    intro x2 y h p2 m2 py my I J S ey
    refine t_X12_tick_27 d h I.1 x1 x2 _ ⟨fun zz => ⟨I, J, S, rfl, by rw [ey]; have := q_le.mp zz; omega⟩, fun z => ?_⟩
    have z := q_nle z
    omega
  | succ r ih =>
    intro x2 y h p2 m2 py my I J S ey
    refine t_X12_tick_27 d h I.1 x1 x2 _ ⟨fun zz => ⟨I, J, S, rfl, by rw [ey]; have := q_le.mp zz; omega⟩, fun z => ?_⟩
    have z := q_nle z
    have ex : (x2 + 1).toInt = x2.toInt + 1 := tx_add (by rw [t1]; omega) (by rw [t1]; omega)
    have ey1 : (y + 1).toInt = y.toInt + 1 := tx_add (by rw [t1]; omega) (by rw [t1]; omega)
    exact th_loop d h0 x1 x2 y ⟨py, by show _ ≤ (19999 : Int); omega⟩ (fun h' I' J' e' => ih (x2 + 1) (y + 1) h' (by omega) (by omega) (by omega) (by omega) I' J' e') 12 0 h (by decide) (by decide) I J S ey
theorem c_tickM (d : Nat) {h : Hp_} (I : Iv h) (J : J2 h) (x1 : Int32) : Ci (m_X12_tick (d + 10) 0 0) [.ref 1, .int x1] h (fun r h' => Iv h' ∧ J2 h' ∧ Fr wsT h h' ∧ otk (h_i h 1 0) x1 r (h_i h' 1 0)) := by
  have nr := I.2.1 1 0
  rw [show tf 1 0 = (0, 20000) by decide +kernel] at nr
  have n0 : 0 ≤ (h_i h 1 0).toInt := nr.1
  have n1 : (h_i h 1 0).toInt ≤ 20000 := nr.2
  have t0 : (0 : Int32).toInt = 0 := rfl
  have t15 : (1500 : Int32).toInt = 1500 := rfl
  have t20 : (20000 : Int32).toInt = 20000 := rfl
  refine t_X12_tick d h I.1 x1 _ ⟨fun n => ⟨I, J, Fr.rf _ _, Or.inr ⟨fun o => n o.1, rfl, rfl⟩⟩, fun z => ⟨fun y => ?_, fun n => ⟨I, J, Fr.rf _ _, Or.inr ⟨fun o => n (q_le.mpr (by have z1 := q_le.mp z.1; have z2 := q_le.mp z.2; have := o.2; rw [tx_add (by omega) (by omega)]; omega)), rfl, rfl⟩⟩⟩⟩
  have z1 := q_le.mp z.1
  have z2 := q_le.mp z.2
  have y := q_le.mp y
  have es : (h_i h 1 0 + x1).toInt = (h_i h 1 0).toInt + x1.toInt := tx_add (by omega) (by omega)
  refine AW.mono (to_loop (F := (h_i h 1 0).toInt + x1.toInt) d h x1 ⟨by show (0 : Int) ≤ _; omega, by show _ ≤ (1500 : Int); omega⟩ 1500 0 (h_i h 1 0) h (by decide) (by rw [t0]; omega) n0 (by rw [t0]; omega) I J (Fr.rf _ _) rfl) (fun v h' q => ?_)
  obtain ⟨r, ev, q1, q2, q3, q4, q5⟩ := q
  exact ⟨r, ev, q1, q2, q3, Or.inl ⟨⟨z, by omega⟩, q4, q5⟩⟩
end
section
/-! begin of the reference -/
theorem Mo.im1 {c : Nat} {h0 h : Hp_} {k : Nat} {x : Int32} (m : Mo c h0 h) (hk0 : ¬ (k = 0 ∨ k = 7 ∨ k = 42) ∧ inw wsR 1 k = true) : Mo c h0 (h_im h 1 k x) := by
  have hk := hk0.1
  refine ⟨fun r hr j hj => ?_, fun j => ?_, fun j => ?_, fun j hj => ?_, m.2.2.2.2.im hk0.2⟩
  · rw [im_ne (fun e => by rw [e] at hr; exact absurd hr (by decide))]; exact m.1 r hr j hj
  · rw [im_ne (by decide)]; exact m.2.1 j
  · rw [im_ne (by decide)]; exact m.2.2.1 j
  · rw [h_i_im, if_neg (fun e => hk (by rw [← e.2]; exact hj))]; exact m.2.2.2.1 j hj
theorem mP_le {wh : Nat → Int32} {b : Nat} : ∀ {f s : Nat}, mP wh b f s ≤ f
  | 0, _ => Nat.le_refl _
  | f + 1, s => by
    have := mP_le (wh := wh) (b := b) (f := f) (s := s + 1)
    show (if wh (150 * b + s) = 2 then 1 else 0) + mP wh b f (s + 1) ≤ f + 1
    split <;> omega
theorem bt_ix {h : Hp_} (I : Iv h) {x : Int32} (bx : rin x.toInt (0, 11)) {s : Nat} {y : Int32} (ey : y.toInt = 150 * x.toInt + s) (hs : s ≤ 150) : (150 * x + h_i h 227 x.toNatClampNeg).toInt = 150 * x.toInt + ((h_i h 227 x.toNatClampNeg).toNatClampNeg : Int) ∧ (h_i h 227 x.toNatClampNeg).toNatClampNeg ≤ 150 ∧ y.toNatClampNeg = 150 * x.toNatClampNeg + s := by
  have t150 : (150 : Int32).toInt = 150 := rfl
  have c0 : 0 ≤ x.toInt := bx.1
  have c1 : x.toInt ≤ 11 := bx.2
  have zz := dp_rg I 227 x.toNatClampNeg (show tfa 227 = some (0, 150) by decide +kernel)
  have nz := n_nat (x := h_i h 227 x.toNatClampNeg) zz.1
  have z0 : 0 ≤ (h_i h 227 x.toNatClampNeg).toInt := zz.1
  have z1 : (h_i h 227 x.toNatClampNeg).toInt ≤ 150 := zz.2
  have m1 : (150 * x).toInt = 150 * x.toInt := by rw [tx_mul (by rw [t150]; omega) (by rw [t150]; omega), t150]
  have nx := n_nat (x := x) c0
  have ny := n_nat (x := y) (by omega)
  exact ⟨by rw [tx_add (by omega) (by omega), m1]; omega, by omega, by omega⟩
theorem c_pointsOf (d : Nat) {h : Hp_} (I : Iv h) (x1 : Int32) (b1 : rin x1.toInt (0, 11)) : Ci (m_X12_pointsOf (d + 0) 0 0) [.ref 1, .int x1] h (fun r h' => h' = h ∧ r.toInt = (mP (h_i h 228) x1.toNatClampNeg (h_i h 227 x1.toNatClampNeg).toNatClampNeg 0 : Int)) := by
  have v1 := dp_in b1 (n := 12) (by decide) (by decide)
  have c0 : 0 ≤ x1.toInt := b1.1
  have c1 : x1.toInt ≤ 11 := b1.2
  have t0 : (0 : Int32).toInt = 0 := rfl
  have t1 : (1 : Int32).toInt = 1 := rfl
  have t150 : (150 : Int32).toInt = 150 := rfl
  have m1 : (150 * x1).toInt = 150 * x1.toInt := by rw [tx_mul (by rw [t150]; omega) (by rw [t150]; omega), t150]
  have lp : ∀ (r s : Nat) (x2 x3 : Int32), x3.toInt = 150 * x1.toInt + s → s + r = (h_i h 227 x1.toNatClampNeg).toNatClampNeg → 0 ≤ x2.toInt → x2.toInt ≤ s → x2.toInt + (mP (h_i h 228) x1.toNatClampNeg r s : Int) = (mP (h_i h 228) x1.toNatClampNeg (h_i h 227 x1.toNatClampNeg).toNatClampNeg 0 : Int) →
      AW (m_X12_pointsOf (d + 0) 0 0) 0 0 8 [(0, .ref 1), (1, .int x1), (2, .int x2), (3, .int x3)] [] h (kI (fun r h' => h' = h ∧ r.toInt = (mP (h_i h 228) x1.toNatClampNeg (h_i h 227 x1.toNatClampNeg).toNatClampNeg 0 : Int))) := by
    intro r
    induction r with
    | zero =>
      intro s x2 x3 e3 es p2 q2 e2
      have zb := (bt_ix I b1 (s := 0) (y := 150 * x1) (by rw [m1]; omega) (by omega)).2.1
      obtain ⟨k1, k2, k3⟩ := bt_ix I b1 e3 (by omega)
      refine t_X12_pointsOf_8 d h I.1 x1 x2 x3 _ ⟨v1, fun _ => ⟨rfl, by rw [← e2]; show _ = x2.toInt + ((0 : Nat) : Int); omega⟩, fun z => ?_⟩
      have z := q_nle z
      omega
    | succ r ih =>
      intro s x2 x3 e3 es p2 q2 e2
      have zb := (bt_ix I b1 (s := 0) (y := 150 * x1) (by rw [m1]; omega) (by omega)).2.1
      obtain ⟨k1, k2, k3⟩ := bt_ix I b1 e3 (by omega)
      have ex : (x3 + 1).toInt = 150 * x1.toInt + ((s + 1 : Nat) : Int) := by rw [tx_add (by rw [t1]; omega) (by rw [t1]; omega), t1, e3]; omega
      have ea : (x2 + 0).toInt = x2.toInt := by rw [tx_add (by rw [t0]; omega) (by rw [t0]; omega), t0]; omega
      have eb : (x2 + 1).toInt = x2.toInt + 1 := tx_add (by rw [t1]; omega) (by rw [t1]; omega)
      have e2' : x2.toInt + (((if h_i h 228 (150 * x1.toNatClampNeg + s) = 2 then 1 else 0) + mP (h_i h 228) x1.toNatClampNeg r (s + 1) : Nat) : Int) = (mP (h_i h 228) x1.toNatClampNeg (h_i h 227 x1.toNatClampNeg).toNatClampNeg 0 : Int) := e2
      refine t_X12_pointsOf_8 d h I.1 x1 x2 x3 _ ⟨v1, fun z => ?_, fun _ => ⟨dp_in (lo := 0) (hi := 1799) ⟨by show (0 : Int) ≤ _; omega, by show _ ≤ (1799 : Int); omega⟩ (by decide) (by decide), fun z => ?_, fun z => ?_⟩⟩
      · have z := q_le.mp z
        omega
      · rw [k3] at z
        rw [if_neg z] at e2'
        exact ih (s + 1) (x2 + 0) (x3 + 1) ex (by omega) (by omega) (by omega) (by rw [ea]; omega)
      · rw [k3] at z
        rw [if_pos z] at e2'
        exact ih (s + 1) (x2 + 1) (x3 + 1) ex (by omega) (by omega) (by omega) (by rw [eb]; omega)
  exact t_X12_pointsOf d h x1 _ (lp (h_i h 227 x1.toNatClampNeg).toNatClampNeg 0 0 (150 * x1) (by rw [m1]; omega) (by omega) (by decide) (by decide) (by rw [t0]; omega))
end
section
/-! begin of the reference, whole -/
theorem i63 {h : Hp_} (I : Iv h) {x : Int32} (b : rin x.toInt (0, 400)) : Iv (h_im h 1 63 x) := I.im (by rw [show tf 1 63 = (0, 400) by decide +kernel]; exact b) (by decide)
theorem rows_in {h : Hp_} (I : Iv h) : rin (h_i h 1 63).toInt (0, 400) := by
  have := I.2.1 1 63
  rwa [show tf 1 63 = (0, 400) by decide +kernel] at this
theorem i2xx (a : Nat) (e : tfa a = some rtop) (n : a ≠ 0) (j : jr a = false) {h : Hp_} (I : Iv h) (k : Nat) (x : Int32) : Iv (h_im h a k x) := tr_ a e I k x n j
/-- while the rows are laid: what stands of the man -/
def Bg (h0 : Hp_) (c : Nat) (x2 : Int32) (N : Nat) (h : Hp_) : Prop := Iv h ∧ Mo c h0 h ∧ h_i h 208 c = 1 ∧ h_i h 212 c = x2 ∧ h_i h 213 c = 0 ∧ h_i h 210 c = -1 ∧ (h_i h 216 c).toInt + (N : Int) ≤ 400
theorem Bg.im {h0 : Hp_} {c : Nat} {x2 : Int32} {N : Nat} {h : Hp_} {a k : Nat} {x : Int32} (B : Bg h0 c x2 N h) (I : Iv (h_im h a k x)) (n : (mrow a || Nat.beq a 227 || Nat.beq a 228 || Nat.beq a 1 || !(inw wsR a 999)) = false) : Bg h0 c x2 N (h_im h a k x) := by
  simp only [Bool.or_eq_false_iff] at n
  have ne : ∀ {y : Nat}, mrow y = true → y ≠ a := fun {y} z e => by rw [e, n.1.1.1.1] at z; cases z
  refine ⟨I, B.2.1.im (by rw [n.1.1.1.2, n.1.1.2, n.1.2, n.2]; rfl) (fun z => by rw [n.1.1.1.1] at z; cases z), ?_, ?_, ?_, ?_, ?_⟩
  · rw [im_ne (ne rfl)]; exact B.2.2.1
  · rw [im_ne (ne rfl)]; exact B.2.2.2.1
  · rw [im_ne (ne rfl)]; exact B.2.2.2.2.1
  · rw [im_ne (ne rfl)]; exact B.2.2.2.2.2.1
  · rw [im_ne (ne rfl)]; exact B.2.2.2.2.2.2
theorem bg_loop (d : Nat) (h0 : Hp_) (x1 x2 : Int32) (b1 : rin x1.toInt (0, 11)) (b2 : rin x2.toInt (0, 11)) (hb : x2.toInt < (h_i h0 1 42).toInt) :
    ∀ (r s : Nat) (x3 : Int32) (h : Hp_), x3.toInt = 150 * x2.toInt + s → s + r = (h_i h0 227 x2.toNatClampNeg).toNatClampNeg → Bg h0 x1.toNatClampNeg x2 (mP (h_i h0 228) x2.toNatClampNeg (h_i h0 227 x2.toNatClampNeg).toNatClampNeg 0) h → (h_i h 1 63).toInt + (mP (h_i h0 228) x2.toNatClampNeg r s : Int) ≤ 400 →
    AW (m_X12_begin (d + 4) 0 0) 0 0 106 [(0, .ref 1), (1, .int x1), (2, .int x2), (3, .int x3)] [] h (kI (fun _ h' => Iv h' ∧ Mo x1.toNatClampNeg h0 h' ∧ Jm h' x1.toNatClampNeg)) := by
  have v1 := dp_in b1 (n := 12) (by decide) (by decide)
  have v2 := dp_in b2 (n := 12) (by decide) (by decide)
  have c0 : 0 ≤ x2.toInt := b2.1
  have c1 : x2.toInt ≤ 11 := b2.2
  have t0 : (0 : Int32).toInt = 0 := rfl
  have t1 : (1 : Int32).toInt = 1 := rfl
  have z0 : (0 : Int32).toNatClampNeg = 0 := by simp
  have fin : ∀ h, Bg h0 x1.toNatClampNeg x2 (mP (h_i h0 228) x2.toNatClampNeg (h_i h0 227 x2.toNatClampNeg).toNatClampNeg 0) h → Cv (m_X12_goOn (d + 3) 0 0) [.ref 1, .int x1] (h_im h 217 x1.toNatClampNeg (h_i h 1 63)) (fun h' => Wf h' ∧ (Iv h' ∧ Mo x1.toNatClampNeg h0 h' ∧ Jm h' x1.toNatClampNeg)) := by
    intro h B0
    have I0 := B0.1
    have B := B0.im (a := 217) (k := x1.toNatClampNeg) (x := h_i h 1 63) (I0.im (by rw [tfa_tf (show tfa 217 = some (0, 400) by decide +kernel)]; exact rows_in I0) (jw_jr (by decide) (by decide) _)) (by decide)
    generalize h_im h 217 x1.toNatClampNeg (h_i h 1 63) = h2 at B ⊢
    obtain ⟨I, M, e1, e2, e3, e4, e5⟩ := B
    have ez : nZ h2 x1.toNatClampNeg = (h_i h0 227 x2.toNatClampNeg).toNatClampNeg := by show (h_i h2 227 (h_i h2 212 x1.toNatClampNeg).toNatClampNeg).toNatClampNeg = _; rw [e2, M.2.1]
    have es : nS h2 x1.toNatClampNeg = 0 := by show (h_i h2 213 x1.toNatClampNeg).toNatClampNeg = _; rw [e3]; exact z0
    have eb : nB h2 x1.toNatClampNeg = x2.toNatClampNeg := by show (h_i h2 212 x1.toNatClampNeg).toNatClampNeg = _; rw [e2]
    have G : Gs h2 x1.toNatClampNeg := by
      unfold Gs
      rw [ez, es, eb, e2, e3, e4, M.wh, M.b42, Nat.sub_zero]
      exact ⟨by decide, Nat.zero_le _, hb, e5, rfl⟩
    exact Cv.mono (c_goOn d I x1 b1 (fun n => absurd e1 n) (fun _ => G)) (fun h' q => ⟨q.1.1, q.1, M.tr q.2.1, q.2.2⟩)
  intro r
  induction r with
  | zero =>
    intro s x3 h e3 es B er
    have ew := B.2.1.2.1 x2.toNatClampNeg
    obtain ⟨_, zb, _⟩ := bt_ix B.1 b2 (s := 0) (y := 150 * x2) (by rw [tx_mul (by rw [show (150 : Int32).toInt = 150 from rfl]; omega) (by rw [show (150 : Int32).toInt = 150 from rfl]; omega)]; show (150 : Int) * x2.toInt = _; omega) (by omega)
    rw [ew] at zb
    obtain ⟨k1, k2, k3⟩ := bt_ix B.1 b2 e3 (by omega)
    rw [ew] at k1
    refine t_X12_begin_106 d h B.1.1 x1 x2 x3 _ ⟨v2, fun _ => ⟨v1, fin h B⟩, fun z => ?_⟩
    rw [ew] at z
    have z := q_nle z
    omega
  | succ r ih =>
    intro s x3 h e3 es B er
    have ew := B.2.1.2.1 x2.toNatClampNeg
    obtain ⟨_, zb, _⟩ := bt_ix B.1 b2 (s := 0) (y := 150 * x2) (by rw [tx_mul (by rw [show (150 : Int32).toInt = 150 from rfl]; omega) (by rw [show (150 : Int32).toInt = 150 from rfl]; omega)]; show (150 : Int) * x2.toInt = _; omega) (by omega)
    rw [ew] at zb
    obtain ⟨k1, k2, k3⟩ := bt_ix B.1 b2 e3 (by omega)
    rw [ew] at k1
    have ex : (x3 + 1).toInt = 150 * x2.toInt + ((s + 1 : Nat) : Int) := by rw [tx_add (by rw [t1]; omega) (by rw [t1]; omega), t1, e3]; omega
    have v3 : vp_in x3 1800 := dp_in (lo := 0) (hi := 1799) ⟨by show (0 : Int) ≤ _; omega, by show _ ≤ (1799 : Int); omega⟩ (by decide) (by decide)
    have er' : (h_i h 1 63).toInt + (((if h_i h0 228 (150 * x2.toNatClampNeg + s) = 2 then 1 else 0) + mP (h_i h0 228) x2.toNatClampNeg r (s + 1) : Nat) : Int) ≤ 400 := er
    have wh : h_i h 228 x3.toNatClampNeg = h_i h0 228 (150 * x2.toNatClampNeg + s) := by rw [k3]; exact B.2.1.2.2.1 _
    refine t_X12_begin_106 d h B.1.1 x1 x2 x3 _ ⟨v2, fun _ => ⟨v1, fin h B⟩, fun z => ⟨v3, fun w => ?_, fun w => ?_⟩⟩
    · rw [wh] at w
      rw [if_neg w] at er'
      exact ih (s + 1) (x3 + 1) h ex (by omega) B (by omega)
    · rw [wh] at w
      rw [if_pos w] at er'
      have r0 : 0 ≤ (h_i h 1 63).toInt := (rows_in B.1).1
      have vr : vp_in (h_i h 1 63) 400 := dp_in (lo := 0) (hi := 399) ⟨r0, by show _ ≤ (399 : Int); omega⟩ (by decide) (by decide)
      have e63 : (h_i h 1 63 + 1).toInt = (h_i h 1 63).toInt + 1 := tx_add (by rw [t1]; omega) (by rw [t1]; omega)
      refine ⟨vr, v3, vr, v3, vr, vr, vr, vr, ?_⟩
      have B1 := B.im (i2xx 238 (by decide +kernel) (by decide) (by decide) B.1 (h_i h 1 63).toNatClampNeg x1) (by decide)
      have B2 := B1.im (i2xx 239 (by decide +kernel) (by decide) (by decide) B1.1 (h_i h 1 63).toNatClampNeg (h_i h 229 x3.toNatClampNeg)) (by decide)
      have B3 := B2.im (i2xx 240 (by decide +kernel) (by decide) (by decide) B2.1 (h_i h 1 63).toNatClampNeg ((h_i h 1 0) + (h_i h 230 x3.toNatClampNeg))) (by decide)
      have B4 := B3.im (i2xx 241 (by decide +kernel) (by decide) (by decide) B3.1 (h_i h 1 63).toNatClampNeg (-1)) (by decide)
      have B5 := B4.im (i2xx 242 (by decide +kernel) (by decide) (by decide) B4.1 (h_i h 1 63).toNatClampNeg (-1)) (by decide)
      have B6 := B5.im (i2xx 244 (by decide +kernel) (by decide) (by decide) B5.1 (h_i h 1 63).toNatClampNeg (h_i h 1 0)) (by decide)
      refine ih (s + 1) (x3 + 1) _ ex (by omega) ⟨i63 B6.1 ⟨by show (0 : Int) ≤ _; omega, by show _ ≤ (400 : Int); omega⟩, B6.2.1.im1 (by decide), ?_, ?_, ?_, ?_, ?_⟩ ?_
      · rw [im_ne (by decide)]; exact B6.2.2.1
      · rw [im_ne (by decide)]; exact B6.2.2.2.1
      · rw [im_ne (by decide)]; exact B6.2.2.2.2.1
      · rw [im_ne (by decide)]; exact B6.2.2.2.2.2.1
      · rw [im_ne (by decide)]; exact B6.2.2.2.2.2.2
      · rw [im_at]; omega
theorem i212 {h : Hp_} (I : Iv h) (k : Nat) {x : Int32} (b : rin x.toInt (0, 11)) : Iv (h_im h 212 k x) := I.im (by rw [tfa_tf (show tfa 212 = some (0, 11) by decide +kernel)]; exact b) (jw_jr (by decide) (by decide) _)
theorem i215 {h : Hp_} (I : Iv h) (k : Nat) {x : Int32} (b : rin x.toInt (0, 400)) : Iv (h_im h 215 k x) := I.im (by rw [tfa_tf (show tfa 215 = some (0, 400) by decide +kernel)]; exact b) (jw_jr (by decide) (by decide) _)
theorem c_begin (d : Nat) {h : Hp_} (I : Iv h) (J : J2 h) (x1 x2 : Int32) : Ci (m_X12_begin (d + 4) 0 0) [.ref 1, .int x1, .int x2] h (fun _ h' => Iv h' ∧ J2 h' ∧ Sr h h') := by
  have t0 : (0 : Int32).toInt = 0 := rfl
  have t1 : (1 : Int32).toInt = 1 := rfl
  have t400 : (400 : Int32).toInt = 400 := rfl
  have mm := men_in I
  have m0 : 0 ≤ (h_i h 1 7).toInt := mm.1
  have m1 : (h_i h 1 7).toInt ≤ 12 := mm.2
  have bm := I.2.1 1 42
  rw [show tf 1 42 = (0, 12) by decide +kernel] at bm
  have p0 : 0 ≤ (h_i h 1 42).toInt := bm.1
  have p1 : (h_i h 1 42).toInt ≤ 12 := bm.2
  have e7 : (h_i h 1 7 - 1).toInt = (h_i h 1 7).toInt - 1 := by rw [tx_sub (by rw [t1]; omega) (by rw [t1]; omega), t1]
  have e42 : (h_i h 1 42 - 1).toInt = (h_i h 1 42).toInt - 1 := by rw [tx_sub (by rw [t1]; omega) (by rw [t1]; omega), t1]
  refine t_X12_begin d h I.1 x1 x2 _ ⟨fun _ => ⟨I, J, Sr.rf _⟩, fun z => ⟨fun _ => ⟨I, J, Sr.rf _⟩, fun y => ?_⟩⟩
  have z1 := q_le.mp z.1
  have z2 := q_le.mp z.2
  have y1 := q_le.mp y.1
  have y2 := q_le.mp y.2
  have b1 : rin x1.toInt (0, 11) := ⟨by show (0 : Int) ≤ _; omega, by show _ ≤ (11 : Int); omega⟩
  have b2 : rin x2.toInt (0, 11) := ⟨by show (0 : Int) ≤ _; omega, by show _ ≤ (11 : Int); omega⟩
  have v1 := dp_in b1 (n := 12) (by decide) (by decide)
  have n1 := n_nat (x := x1) (by omega)
  refine ⟨v1, fun _ => ⟨I, J, Sr.rf _⟩, fun d0 => ?_⟩
  refine Ci.mono (c_pointsOf d I x2 b2) (fun r h9 q => ?_)
  obtain ⟨e9, er⟩ := q
  subst e9
  refine ⟨I.1, fun le => ⟨v1, v1, v1, v1, v1, v1, ?_⟩, fun _ => ⟨I, J, Sr.rf _⟩⟩
  have le := q_le.mp le
  have rr := rows_in I
  have r0 : 0 ≤ (h_i h9 1 63).toInt := rr.1
  have r1 : (h_i h9 1 63).toInt ≤ 400 := rr.2
  have mb := mP_le (wh := h_i h9 228) (b := x2.toNatClampNeg) (f := (h_i h9 227 x2.toNatClampNeg).toNatClampNeg) (s := 0)
  have t150 : (150 : Int32).toInt = 150 := rfl
  have m150 : (150 * x2).toInt = 150 * x2.toInt := by rw [tx_mul (by rw [t150]; omega) (by rw [t150]; omega), t150]
  obtain ⟨_, zb, _⟩ := bt_ix I b2 (s := 0) (y := 150 * x2) (by rw [m150]; omega) (by omega)
  have es : (h_i h9 1 63 + r).toInt = (h_i h9 1 63).toInt + r.toInt := tx_add (by omega) (by omega)
  have g1 : h_i h9 210 x1.toNatClampNeg = -1 := (J _ (by omega) (by omega)).1 d0
  have I6 := i216 (i215 (i2xx 214 (by decide +kernel) (by decide) (by decide) (i213 (i212 (i208 I x1.toNatClampNeg 1) x1.toNatClampNeg b2) x1.toNatClampNeg (x := 0) ⟨by decide, by decide⟩) x1.toNatClampNeg (h_i h9 1 0)) x1.toNatClampNeg rr) x1.toNatClampNeg rr
  refine AW.mono (bg_loop d h9 x1 x2 b1 b2 (by omega) (h_i h9 227 x2.toNatClampNeg).toNatClampNeg 0 (150 * x2) _ (by rw [m150]; omega) (by omega) ⟨I6, ?_, ?_, ?_, ?_, ?_, ?_⟩ ?_) (fun v h' q => ?_)
  · exact ((((((Mo.rf _ _).im (by decide) (fun _ => rfl)).im (by decide) (fun _ => rfl)).im (by decide) (fun _ => rfl)).im (by decide) (fun y => absurd y (by decide))).im (by decide) (fun y => absurd y (by decide))).im (by decide) (fun _ => rfl)
  · rw [im_ne (by decide), im_ne (by decide), im_ne (by decide), im_ne (by decide), im_ne (by decide), im_at]
  · rw [im_ne (by decide), im_ne (by decide), im_ne (by decide), im_ne (by decide), im_at]
  · rw [im_ne (by decide), im_ne (by decide), im_ne (by decide), im_at]
  · rw [im_ne (by decide), im_ne (by decide), im_ne (by decide), im_ne (by decide), im_ne (by decide), im_ne (by decide)]; exact g1
  · rw [im_at]; omega
  · rw [im_ne (by decide), im_ne (by decide), im_ne (by decide), im_ne (by decide), im_ne (by decide), im_ne (by decide)]; omega
  · obtain ⟨r2, ev, I', M', j'⟩ := q
    exact ⟨r2, ev, I', J2_o M' J j', M'.sr⟩
end
