theorem t_X12_wakeBeat (d : Nat) (h : Hp_) (w : Wf h) (x1 : Int32) (x2 : Int32) (K : Hp_ → Prop) (k : vp_in x1 12 ∧ (vp_in x1 12 ∧ ((x2 = 0 → vp_in ((150 * (h_i h 212 x1.toNatClampNeg)) + (h_i h 213 x1.toNatClampNeg)) 1800 ∧ ((¬ (h_i h 228 (((150 * (h_i h 212 x1.toNatClampNeg)) + (h_i h 213 x1.toNatClampNeg)) : Int32).toNatClampNeg) = 3 → vp_in x1 12 ∧ (vp_in x1 12 ∧ (Cv (m_X12_goOn (d + 3) 0 0) [.ref 1, .int x1] (h_im h 213 x1.toNatClampNeg ((h_i h 213 x1.toNatClampNeg) + 1)) (fun h8 => Wf h8 ∧ (K h8))))) ∧ ((h_i h 228 (((150 * (h_i h 212 x1.toNatClampNeg)) + (h_i h 213 x1.toNatClampNeg)) : Int32).toNatClampNeg) = 3 → Cv (m_X12_see (d + 7) 0 0) [.ref 1, .int x1] h (fun h11 => Wf h11 ∧ (vp_in x1 12 ∧ (vp_in x1 12 ∧ (Cv (m_X12_goOn (d + 3) 0 0) [.ref 1, .int x1] (h_im h11 213 x1.toNatClampNeg ((h_i h11 213 x1.toNatClampNeg) + 1)) (fun h16 => Wf h16 ∧ (K h16))))))))) ∧ (¬ x2 = 0 → vp_in ((150 * (h_i h 212 x1.toNatClampNeg)) + (h_i h 213 x1.toNatClampNeg)) 1800 ∧ ((¬ (h_i h 228 (((150 * (h_i h 212 x1.toNatClampNeg)) + (h_i h 213 x1.toNatClampNeg)) : Int32).toNatClampNeg) = 2 → vp_in x1 12 ∧ (vp_in x1 12 ∧ (Cv (m_X12_goOn (d + 3) 0 0) [.ref 1, .int x1] (h_im h 213 x1.toNatClampNeg ((h_i h 213 x1.toNatClampNeg) + 1)) (fun h23 => Wf h23 ∧ (K h23))))) ∧ ((h_i h 228 (((150 * (h_i h 212 x1.toNatClampNeg)) + (h_i h 213 x1.toNatClampNeg)) : Int32).toNatClampNeg) = 2 → vp_in ((150 * (h_i h 212 x1.toNatClampNeg)) + (h_i h 213 x1.toNatClampNeg)) 1800 ∧ (Ci (m_X12_comes (d + 1) 0 0) [.ref 1, .int x1, .int (h_i h 230 (((150 * (h_i h 212 x1.toNatClampNeg)) + (h_i h 213 x1.toNatClampNeg)) : Int32).toNatClampNeg)] h (fun r29 h27 => Wf h27 ∧ ((r29 = 0 → vp_in x1 12 ∧ (vp_in x1 12 ∧ (Cv (m_X12_goOn (d + 3) 0 0) [.ref 1, .int x1] (h_im h27 213 x1.toNatClampNeg ((h_i h27 213 x1.toNatClampNeg) + 1)) (fun h33 => Wf h33 ∧ (K h33))))) ∧ (¬ r29 = 0 → K h27)))))))))) : Cv (m_X12_wakeBeat (d + 8) 0 0) [.ref 1, .int x1, .int x2] h K := by
  refine Ct.of (fun _ _ _ => trivial) rfl (Nat.le_of_ble_eq_true rfl) ?_
  show AW (m_X12_wakeBeat (d + 8) 0 0) 0 0 0 [(0, .ref 1), (1, .int x1), (2, .int x2)] [] h (kV K)
  refine aw_sipush (v := 150) d_X12_wakeBeat_0 is_150 ?_
  refine aw_aload_n (i := 0) rfl d_X12_wakeBeat_3 0 rfl ?_
  refine aw_getr (k0 := 16) kc_12 (ws_1 w) (Nat.le_of_ble_eq_true rfl) tw_1758 d_X12_wakeBeat_4 rfl (wr_1_16 w) ?_
  refine aw_iload_n (i := 1) rfl d_X12_wakeBeat_7 1 rfl ?_
  obtain ⟨b1, k⟩ := k
  refine aw_iald (ws_212 w) b1 d_X12_wakeBeat_8 ?_
  refine aw_imul d_X12_wakeBeat_9 ?_
  refine aw_aload_n (i := 0) rfl d_X12_wakeBeat_10 0 rfl ?_
  refine aw_getr (k0 := 17) kc_12 (ws_1 w) (Nat.le_of_ble_eq_true rfl) tw_1759 d_X12_wakeBeat_11 rfl (wr_1_17 w) ?_
  refine aw_iload_n (i := 1) rfl d_X12_wakeBeat_14 1 rfl ?_
  obtain ⟨b2, k⟩ := k
  refine aw_iald (ws_213 w) b2 d_X12_wakeBeat_15 ?_
  refine aw_iadd d_X12_wakeBeat_16 ?_
  refine aw_istore_n (i := 3) rfl [(0, .ref 1), (1, .int x1), (2, .int x2), (3, .int ((150 * (h_i h 212 x1.toNatClampNeg)) + (h_i h 213 x1.toNatClampNeg)))] d_X12_wakeBeat_17 (Nat.le_of_ble_eq_true rfl) rfl rfl ?_
  refine aw_iload_n (i := 2) rfl d_X12_wakeBeat_18 2 rfl ?_
  refine aw_if_eq (tgt := 47) d_X12_wakeBeat_19 rfl (fun c3 => ?_) (fun c3 => ?_)
  · have k := k.1 c3
    refine aw_aload_n (i := 0) rfl d_X12_wakeBeat_47 0 rfl ?_
    refine aw_getr (k0 := 39) kc_12 (ws_1 w) (Nat.le_of_ble_eq_true rfl) tw_1781 d_X12_wakeBeat_48 rfl (wr_1_39 w) ?_
    refine aw_iload_n (i := 3) rfl d_X12_wakeBeat_51 3 rfl ?_
    obtain ⟨b4, k⟩ := k
    refine aw_iald (ws_228 w) b4 d_X12_wakeBeat_52 ?_
    refine aw_iconst (v := 3) d_X12_wakeBeat_53 ic_3 ?_
    refine aw_icmp_ne (tgt := 62) d_X12_wakeBeat_54 rfl (fun c5 => ?_) (fun c5 => ?_)
    · have k := k.1 c5
      refine aw_aload_n (i := 0) rfl d_X12_wakeBeat_62 0 rfl ?_
      refine aw_getr (k0 := 17) kc_12 (ws_1 w) (Nat.le_of_ble_eq_true rfl) tw_1759 d_X12_wakeBeat_63 rfl (wr_1_17 w) ?_
      refine aw_iload_n (i := 1) rfl d_X12_wakeBeat_66 1 rfl ?_
      refine aw_dup2 d_X12_wakeBeat_67 ⟨rfl, rfl⟩ ?_
      obtain ⟨b6, k⟩ := k
      refine aw_iald (ws_213 w) b6 d_X12_wakeBeat_68 ?_
      refine aw_iconst (v := 1) d_X12_wakeBeat_69 ic_1 ?_
      refine aw_iadd d_X12_wakeBeat_70 ?_
      obtain ⟨b7, k⟩ := k
      refine aw_iast (ws_213 w) b7 d_X12_wakeBeat_71 ?_
      refine aw_aload_n (i := 0) rfl d_X12_wakeBeat_72 0 rfl ?_
      refine aw_iload_n (i := 1) rfl d_X12_wakeBeat_73 1 rfl ?_
      refine aw_Vv 1 [.int x1] [] d_X12_wakeBeat_74 (cV_X12_goOn (d + 3) 0 0) kc_12 (ws_1 w) tw_2336 rfl (rr0 (Nat.le_of_ble_eq_true rfl) (Nat.le_of_ble_eq_true rfl)) (Nat.le_of_ble_eq_true rfl) xs0 k (fun h8 kk => ?_)
      obtain ⟨w9, k⟩ := kk
      exact aw_vret rfl d_X12_wakeBeat_77 ⟨Nat.le_refl _, Nat.le_refl _⟩ ⟨rfl, k⟩
    · have k := k.2 c5
      refine aw_aload_n (i := 0) rfl d_X12_wakeBeat_57 0 rfl ?_
      refine aw_iload_n (i := 1) rfl d_X12_wakeBeat_58 1 rfl ?_
      refine aw_Vv 1 [.int x1] [] d_X12_wakeBeat_59 (cV_X12_see (d + 7) 0 0) kc_12 (ws_1 w) tw_2392 rfl (rr0 (Nat.le_of_ble_eq_true rfl) (Nat.le_of_ble_eq_true rfl)) (Nat.le_of_ble_eq_true rfl) xs0 k (fun h11 kk => ?_)
      obtain ⟨w12, k⟩ := kk
      refine aw_aload_n (i := 0) rfl d_X12_wakeBeat_62 0 rfl ?_
      refine aw_getr (k0 := 17) kc_12 (ws_1 w12) (Nat.le_of_ble_eq_true rfl) tw_1759 d_X12_wakeBeat_63 rfl (wr_1_17 w12) ?_
      refine aw_iload_n (i := 1) rfl d_X12_wakeBeat_66 1 rfl ?_
      refine aw_dup2 d_X12_wakeBeat_67 ⟨rfl, rfl⟩ ?_
      obtain ⟨b14, k⟩ := k
      refine aw_iald (ws_213 w12) b14 d_X12_wakeBeat_68 ?_
      refine aw_iconst (v := 1) d_X12_wakeBeat_69 ic_1 ?_
      refine aw_iadd d_X12_wakeBeat_70 ?_
      obtain ⟨b15, k⟩ := k
      refine aw_iast (ws_213 w12) b15 d_X12_wakeBeat_71 ?_
      refine aw_aload_n (i := 0) rfl d_X12_wakeBeat_72 0 rfl ?_
      refine aw_iload_n (i := 1) rfl d_X12_wakeBeat_73 1 rfl ?_
      refine aw_Vv 1 [.int x1] [] d_X12_wakeBeat_74 (cV_X12_goOn (d + 3) 0 0) kc_12 (ws_1 w12) tw_2336 rfl (rr0 (Nat.le_of_ble_eq_true rfl) (Nat.le_of_ble_eq_true rfl)) (Nat.le_of_ble_eq_true rfl) xs0 k (fun h16 kk => ?_)
      obtain ⟨w17, k⟩ := kk
      exact aw_vret rfl d_X12_wakeBeat_77 ⟨Nat.le_refl _, Nat.le_refl _⟩ ⟨rfl, k⟩
  · have k := k.2 c3
    refine aw_aload_n (i := 0) rfl d_X12_wakeBeat_22 0 rfl ?_
    refine aw_getr (k0 := 39) kc_12 (ws_1 w) (Nat.le_of_ble_eq_true rfl) tw_1781 d_X12_wakeBeat_23 rfl (wr_1_39 w) ?_
    refine aw_iload_n (i := 3) rfl d_X12_wakeBeat_26 3 rfl ?_
    obtain ⟨b19, k⟩ := k
    refine aw_iald (ws_228 w) b19 d_X12_wakeBeat_27 ?_
    refine aw_iconst (v := 2) d_X12_wakeBeat_28 ic_2 ?_
    refine aw_icmp_ne (tgt := 62) d_X12_wakeBeat_29 rfl (fun c20 => ?_) (fun c20 => ?_)
    · have k := k.1 c20
      refine aw_aload_n (i := 0) rfl d_X12_wakeBeat_62 0 rfl ?_
      refine aw_getr (k0 := 17) kc_12 (ws_1 w) (Nat.le_of_ble_eq_true rfl) tw_1759 d_X12_wakeBeat_63 rfl (wr_1_17 w) ?_
      refine aw_iload_n (i := 1) rfl d_X12_wakeBeat_66 1 rfl ?_
      refine aw_dup2 d_X12_wakeBeat_67 ⟨rfl, rfl⟩ ?_
      obtain ⟨b21, k⟩ := k
      refine aw_iald (ws_213 w) b21 d_X12_wakeBeat_68 ?_
      refine aw_iconst (v := 1) d_X12_wakeBeat_69 ic_1 ?_
      refine aw_iadd d_X12_wakeBeat_70 ?_
      obtain ⟨b22, k⟩ := k
      refine aw_iast (ws_213 w) b22 d_X12_wakeBeat_71 ?_
      refine aw_aload_n (i := 0) rfl d_X12_wakeBeat_72 0 rfl ?_
      refine aw_iload_n (i := 1) rfl d_X12_wakeBeat_73 1 rfl ?_
      refine aw_Vv 1 [.int x1] [] d_X12_wakeBeat_74 (cV_X12_goOn (d + 3) 0 0) kc_12 (ws_1 w) tw_2336 rfl (rr0 (Nat.le_of_ble_eq_true rfl) (Nat.le_of_ble_eq_true rfl)) (Nat.le_of_ble_eq_true rfl) xs0 k (fun h23 kk => ?_)
      obtain ⟨w24, k⟩ := kk
      exact aw_vret rfl d_X12_wakeBeat_77 ⟨Nat.le_refl _, Nat.le_refl _⟩ ⟨rfl, k⟩
    · have k := k.2 c20
      refine aw_aload_n (i := 0) rfl d_X12_wakeBeat_32 0 rfl ?_
      refine aw_iload_n (i := 1) rfl d_X12_wakeBeat_33 1 rfl ?_
      refine aw_aload_n (i := 0) rfl d_X12_wakeBeat_34 0 rfl ?_
      refine aw_getr (k0 := 41) kc_12 (ws_1 w) (Nat.le_of_ble_eq_true rfl) tw_1783 d_X12_wakeBeat_35 rfl (wr_1_41 w) ?_
      refine aw_iload_n (i := 3) rfl d_X12_wakeBeat_38 3 rfl ?_
      obtain ⟨b26, k⟩ := k
      refine aw_iald (ws_230 w) b26 d_X12_wakeBeat_39 ?_
      refine aw_Vi 1 [.int x1, .int (h_i h 230 (((150 * (h_i h 212 x1.toNatClampNeg)) + (h_i h 213 x1.toNatClampNeg)) : Int32).toNatClampNeg)] [] d_X12_wakeBeat_40 (cV_X12_comes (d + 1) 0 0) kc_12 (ws_1 w) tw_2356 rfl (rr0 (Nat.le_of_ble_eq_true rfl) (Nat.le_of_ble_eq_true rfl)) (Nat.le_of_ble_eq_true rfl) xs0 k (fun r29 h27 kk => ?_)
      obtain ⟨w28, k⟩ := kk
      refine aw_if_eq (tgt := 62) d_X12_wakeBeat_43 rfl (fun c30 => ?_) (fun c30 => ?_)
      · have k := k.1 c30
        refine aw_aload_n (i := 0) rfl d_X12_wakeBeat_62 0 rfl ?_
        refine aw_getr (k0 := 17) kc_12 (ws_1 w28) (Nat.le_of_ble_eq_true rfl) tw_1759 d_X12_wakeBeat_63 rfl (wr_1_17 w28) ?_
        refine aw_iload_n (i := 1) rfl d_X12_wakeBeat_66 1 rfl ?_
        refine aw_dup2 d_X12_wakeBeat_67 ⟨rfl, rfl⟩ ?_
        obtain ⟨b31, k⟩ := k
        refine aw_iald (ws_213 w28) b31 d_X12_wakeBeat_68 ?_
        refine aw_iconst (v := 1) d_X12_wakeBeat_69 ic_1 ?_
        refine aw_iadd d_X12_wakeBeat_70 ?_
        obtain ⟨b32, k⟩ := k
        refine aw_iast (ws_213 w28) b32 d_X12_wakeBeat_71 ?_
        refine aw_aload_n (i := 0) rfl d_X12_wakeBeat_72 0 rfl ?_
        refine aw_iload_n (i := 1) rfl d_X12_wakeBeat_73 1 rfl ?_
        refine aw_Vv 1 [.int x1] [] d_X12_wakeBeat_74 (cV_X12_goOn (d + 3) 0 0) kc_12 (ws_1 w28) tw_2336 rfl (rr0 (Nat.le_of_ble_eq_true rfl) (Nat.le_of_ble_eq_true rfl)) (Nat.le_of_ble_eq_true rfl) xs0 k (fun h33 kk => ?_)
        obtain ⟨w34, k⟩ := kk
        exact aw_vret rfl d_X12_wakeBeat_77 ⟨Nat.le_refl _, Nat.le_refl _⟩ ⟨rfl, k⟩
      · have k := k.2 c30
        exact aw_vret rfl d_X12_wakeBeat_46 ⟨Nat.le_refl _, Nat.le_refl _⟩ ⟨rfl, k⟩
theorem t_X12_wake (d : Nat) (h : Hp_) (w : Wf h) (x1 : Int32) (K : Hp_ → Prop) (k : vp_in x1 12 ∧ (((h_i h 211 x1.toNatClampNeg) = (h_i h 1 0) → vp_in x1 12 ∧ (((h_i h 210 x1.toNatClampNeg) = (-1) → AW (m_X12_wake (d + 9) 0 0) 0 0 29 [(0, .ref 1), (1, .int x1)] [.int 0] h (kV K)) ∧ (¬ (h_i h 210 x1.toNatClampNeg) = (-1) → AW (m_X12_wake (d + 9) 0 0) 0 0 29 [(0, .ref 1), (1, .int x1)] [.int 1] h (kV K)))) ∧ (¬ (h_i h 211 x1.toNatClampNeg) = (h_i h 1 0) → K h))) : Cv (m_X12_wake (d + 9) 0 0) [.ref 1, .int x1] h K := by
  refine Ct.of (fun _ _ _ => trivial) rfl (Nat.le_of_ble_eq_true rfl) ?_
  show AW (m_X12_wake (d + 9) 0 0) 0 0 0 [(0, .ref 1), (1, .int x1)] [] h (kV K)
  refine aw_aload_n (i := 0) rfl d_X12_wake_0 0 rfl ?_
  refine aw_getr (k0 := 15) kc_12 (ws_1 w) (Nat.le_of_ble_eq_true rfl) tw_1757 d_X12_wake_1 rfl (wr_1_15 w) ?_
  refine aw_iload_n (i := 1) rfl d_X12_wake_4 1 rfl ?_
  obtain ⟨b1, k⟩ := k
  refine aw_iald (ws_211 w) b1 d_X12_wake_5 ?_
  refine aw_aload_n (i := 0) rfl d_X12_wake_6 0 rfl ?_
  refine aw_geti (k0 := 0) kc_12 (ws_1 w) (Nat.le_of_ble_eq_true rfl) tw_1742 d_X12_wake_7 rfl ?_
  refine aw_icmp_eq (tgt := 14) d_X12_wake_10 rfl (fun c2 => ?_) (fun c2 => ?_)
  · have k := k.1 c2
    refine aw_aload_n (i := 0) rfl d_X12_wake_14 0 rfl ?_
    refine aw_getr (k0 := 14) kc_12 (ws_1 w) (Nat.le_of_ble_eq_true rfl) tw_1756 d_X12_wake_15 rfl (wr_1_14 w) ?_
    refine aw_iload_n (i := 1) rfl d_X12_wake_18 1 rfl ?_
    obtain ⟨b3, k⟩ := k
    refine aw_iald (ws_210 w) b3 d_X12_wake_19 ?_
    refine aw_iconst (v := (-1)) d_X12_wake_20 ic_m1 ?_
    refine aw_icmp_eq (tgt := 28) d_X12_wake_21 rfl (fun c4 => ?_) (fun c4 => ?_)
    · have k := k.1 c4
      refine aw_iconst (v := 0) d_X12_wake_28 ic_0 ?_
      exact k
    · have k := k.2 c4
      refine aw_iconst (v := 1) d_X12_wake_24 ic_1 ?_
      refine aw_goto (tgt := 29) d_X12_wake_25 rfl ?_
      exact k
  · have k := k.2 c2
    exact aw_vret rfl d_X12_wake_13 ⟨Nat.le_refl _, Nat.le_refl _⟩ ⟨rfl, k⟩
theorem t_X12_wake_29 (d : Nat) (h : Hp_) (w : Wf h) (x1 : Int32) (s0 : Int32) (K : Hp_ → Prop) (k : (s0 = 0 → vp_in x1 12 ∧ (vp_in x1 12 ∧ ((¬ (h_i h 208 x1.toNatClampNeg) = 2 → vp_in x1 12 ∧ ((¬ (h_i h 208 x1.toNatClampNeg) = 3 → vp_in x1 12 ∧ ((¬ (h_i h 208 x1.toNatClampNeg) = 1 → K (h_im h 211 x1.toNatClampNeg (-1))) ∧ ((h_i h 208 x1.toNatClampNeg) = 1 → Cv (m_X12_wakeBeat (d + 8) 0 0) [.ref 1, .int x1, .int s0] (h_im h 211 x1.toNatClampNeg (-1)) (fun h13 => Wf h13 ∧ (K h13))))) ∧ ((h_i h 208 x1.toNatClampNeg) = 3 → (¬ s0 = 0 → vp_in x1 12 ∧ (vp_in x1 12 ∧ ((¬ (h_i h 209 x1.toNatClampNeg) = (h_i h 218 x1.toNatClampNeg) → vp_in x1 12 ∧ (Cv (m_X12_goDrawn (d + 4) 0 0) [.ref 1, .int x1] (h_im (h_im h 211 x1.toNatClampNeg (-1)) 248 x1.toNatClampNeg (vp_nar .boolean 1)) (fun h21 => Wf h21 ∧ (K h21)))) ∧ ((h_i h 209 x1.toNatClampNeg) = (h_i h 218 x1.toNatClampNeg) → vp_in x1 12 ∧ (((h_i h 248 x1.toNatClampNeg) = 0 → vp_in x1 12 ∧ (Cv (m_X12_goDrawn (d + 4) 0 0) [.ref 1, .int x1] (h_im (h_im h 211 x1.toNatClampNeg (-1)) 248 x1.toNatClampNeg (vp_nar .boolean 1)) (fun h27 => Wf h27 ∧ (K h27)))) ∧ (¬ (h_i h 248 x1.toNatClampNeg) = 0 → Cv (m_X12_stay (d + 3) 0 0) [.ref 1, .int x1] (h_im h 211 x1.toNatClampNeg (-1)) (fun h30 => Wf h30 ∧ (K h30)))))))) ∧ (s0 = 0 → Cv (m_X12_goHome (d + 2) 0 0) [.ref 1, .int x1] (h_im h 211 x1.toNatClampNeg (-1)) (fun h33 => Wf h33 ∧ (K h33)))))) ∧ ((h_i h 208 x1.toNatClampNeg) = 2 → Cv (m_X12_free (d + 0) 0 0) [.ref 1, .int x1] (h_im h 211 x1.toNatClampNeg (-1)) (fun h36 => Wf h36 ∧ (K h36)))))) ∧ (¬ s0 = 0 → vp_in x1 12 ∧ (vp_in x1 12 ∧ (vp_in x1 12 ∧ (vp_in x1 12 ∧ (vp_in x1 12 ∧ ((¬ (h_i h 208 x1.toNatClampNeg) = 2 → vp_in x1 12 ∧ ((¬ (h_i h 208 x1.toNatClampNeg) = 3 → vp_in x1 12 ∧ ((¬ (h_i h 208 x1.toNatClampNeg) = 1 → K (h_im (h_im (h_im h 209 x1.toNatClampNeg (h_i h 210 x1.toNatClampNeg)) 210 x1.toNatClampNeg (-1)) 211 x1.toNatClampNeg (-1))) ∧ ((h_i h 208 x1.toNatClampNeg) = 1 → Cv (m_X12_wakeBeat (d + 8) 0 0) [.ref 1, .int x1, .int s0] (h_im (h_im (h_im h 209 x1.toNatClampNeg (h_i h 210 x1.toNatClampNeg)) 210 x1.toNatClampNeg (-1)) 211 x1.toNatClampNeg (-1)) (fun h49 => Wf h49 ∧ (K h49))))) ∧ ((h_i h 208 x1.toNatClampNeg) = 3 → (¬ s0 = 0 → vp_in x1 12 ∧ (vp_in x1 12 ∧ ((¬ (h_i h 210 x1.toNatClampNeg) = (h_i h 218 x1.toNatClampNeg) → vp_in x1 12 ∧ (Cv (m_X12_goDrawn (d + 4) 0 0) [.ref 1, .int x1] (h_im (h_im (h_im (h_im h 209 x1.toNatClampNeg (h_i h 210 x1.toNatClampNeg)) 210 x1.toNatClampNeg (-1)) 211 x1.toNatClampNeg (-1)) 248 x1.toNatClampNeg (vp_nar .boolean 1)) (fun h57 => Wf h57 ∧ (K h57)))) ∧ ((h_i h 210 x1.toNatClampNeg) = (h_i h 218 x1.toNatClampNeg) → vp_in x1 12 ∧ (((h_i h 248 x1.toNatClampNeg) = 0 → vp_in x1 12 ∧ (Cv (m_X12_goDrawn (d + 4) 0 0) [.ref 1, .int x1] (h_im (h_im (h_im (h_im h 209 x1.toNatClampNeg (h_i h 210 x1.toNatClampNeg)) 210 x1.toNatClampNeg (-1)) 211 x1.toNatClampNeg (-1)) 248 x1.toNatClampNeg (vp_nar .boolean 1)) (fun h63 => Wf h63 ∧ (K h63)))) ∧ (¬ (h_i h 248 x1.toNatClampNeg) = 0 → Cv (m_X12_stay (d + 3) 0 0) [.ref 1, .int x1] (h_im (h_im (h_im h 209 x1.toNatClampNeg (h_i h 210 x1.toNatClampNeg)) 210 x1.toNatClampNeg (-1)) 211 x1.toNatClampNeg (-1)) (fun h66 => Wf h66 ∧ (K h66)))))))) ∧ (s0 = 0 → Cv (m_X12_goHome (d + 2) 0 0) [.ref 1, .int x1] (h_im (h_im (h_im h 209 x1.toNatClampNeg (h_i h 210 x1.toNatClampNeg)) 210 x1.toNatClampNeg (-1)) 211 x1.toNatClampNeg (-1)) (fun h69 => Wf h69 ∧ (K h69)))))) ∧ ((h_i h 208 x1.toNatClampNeg) = 2 → Cv (m_X12_free (d + 0) 0 0) [.ref 1, .int x1] (h_im (h_im (h_im h 209 x1.toNatClampNeg (h_i h 210 x1.toNatClampNeg)) 210 x1.toNatClampNeg (-1)) 211 x1.toNatClampNeg (-1)) (fun h72 => Wf h72 ∧ (K h72)))))))))) : AW (m_X12_wake (d + 9) 0 0) 0 0 29 [(0, .ref 1), (1, .int x1)] [.int s0] h (kV K) := by
  refine aw_istore_n (i := 2) rfl [(0, .ref 1), (1, .int x1), (2, .int s0)] d_X12_wake_29 (Nat.le_of_ble_eq_true rfl) rfl rfl ?_
  refine aw_iload_n (i := 2) rfl d_X12_wake_30 2 rfl ?_
  refine aw_if_eq (tgt := 53) d_X12_wake_31 rfl (fun c5 => ?_) (fun c5 => ?_)
  · have k := k.1 c5
    refine aw_aload_n (i := 0) rfl d_X12_wake_53 0 rfl ?_
    refine aw_getr (k0 := 15) kc_12 (ws_1 w) (Nat.le_of_ble_eq_true rfl) tw_1757 d_X12_wake_54 rfl (wr_1_15 w) ?_
    refine aw_iload_n (i := 1) rfl d_X12_wake_57 1 rfl ?_
    refine aw_iconst (v := (-1)) d_X12_wake_58 ic_m1 ?_
    obtain ⟨b6, k⟩ := k
    refine aw_iast (ws_211 w) b6 d_X12_wake_59 ?_
    refine aw_aload_n (i := 0) rfl d_X12_wake_60 0 rfl ?_
    refine aw_getr (k0 := 12) kc_12 (ws_1 w) (Nat.le_of_ble_eq_true rfl) tw_1754 d_X12_wake_61 rfl (wr_1_12 w) ?_
    refine aw_iload_n (i := 1) rfl d_X12_wake_64 1 rfl ?_
    obtain ⟨b7, k⟩ := k
    refine aw_iald (ws_208 w) b7 d_X12_wake_65 ?_
    refine aw_vi (v2 := (h_i h 208 x1.toNatClampNeg)) (rfl) ?_
    refine aw_iconst (v := 2) d_X12_wake_66 ic_2 ?_
    refine aw_icmp_ne (tgt := 78) d_X12_wake_67 rfl (fun c8 => ?_) (fun c8 => ?_)
    · have k := k.1 c8
      refine aw_aload_n (i := 0) rfl d_X12_wake_78 0 rfl ?_
      refine aw_getr (k0 := 12) kc_12 (ws_1 w) (Nat.le_of_ble_eq_true rfl) tw_1754 d_X12_wake_79 rfl (wr_1_12 w) ?_
      refine aw_iload_n (i := 1) rfl d_X12_wake_82 1 rfl ?_
      obtain ⟨b9, k⟩ := k
      refine aw_iald (ws_208 w) b9 d_X12_wake_83 ?_
      refine aw_vi (v2 := (h_i h 208 x1.toNatClampNeg)) (rfl) ?_
      refine aw_iconst (v := 3) d_X12_wake_84 ic_3 ?_
      refine aw_icmp_ne (tgt := 147) d_X12_wake_85 rfl (fun c10 => ?_) (fun c10 => ?_)
      · have k := k.1 c10
        refine aw_aload_n (i := 0) rfl d_X12_wake_147 0 rfl ?_
        refine aw_getr (k0 := 12) kc_12 (ws_1 w) (Nat.le_of_ble_eq_true rfl) tw_1754 d_X12_wake_148 rfl (wr_1_12 w) ?_
        refine aw_iload_n (i := 1) rfl d_X12_wake_151 1 rfl ?_
        obtain ⟨b11, k⟩ := k
        refine aw_iald (ws_208 w) b11 d_X12_wake_152 ?_
        refine aw_vi (v2 := (h_i h 208 x1.toNatClampNeg)) (rfl) ?_
        refine aw_iconst (v := 1) d_X12_wake_153 ic_1 ?_
        refine aw_icmp_ne (tgt := 163) d_X12_wake_154 rfl (fun c12 => ?_) (fun c12 => ?_)
        · have k := k.1 c12
          exact aw_vret rfl d_X12_wake_163 ⟨Nat.le_refl _, Nat.le_refl _⟩ ⟨rfl, k⟩
        · have k := k.2 c12
          refine aw_aload_n (i := 0) rfl d_X12_wake_157 0 rfl ?_
          refine aw_iload_n (i := 1) rfl d_X12_wake_158 1 rfl ?_
          refine aw_iload_n (i := 2) rfl d_X12_wake_159 2 rfl ?_
          refine aw_Vv 1 [.int x1, .int s0] [] d_X12_wake_160 (cV_X12_wakeBeat (d + 8) 0 0) kc_12 (ws_1 w) tw_2388 rfl (rr0 (Nat.le_of_ble_eq_true rfl) (Nat.le_of_ble_eq_true rfl)) (Nat.le_of_ble_eq_true rfl) xs0 k (fun h13 kk => ?_)
          obtain ⟨w14, k⟩ := kk
          exact aw_vret rfl d_X12_wake_163 ⟨Nat.le_refl _, Nat.le_refl _⟩ ⟨rfl, k⟩
      · have k := k.2 c10
        refine aw_iload_n (i := 2) rfl d_X12_wake_88 2 rfl ?_
        refine aw_if_ne (tgt := 100) d_X12_wake_89 rfl (fun c16 => ?_) (fun c16 => ?_)
        · have k := k.1 c16
          refine aw_aload_n (i := 0) rfl d_X12_wake_100 0 rfl ?_
          refine aw_getr (k0 := 13) kc_12 (ws_1 w) (Nat.le_of_ble_eq_true rfl) tw_1755 d_X12_wake_101 rfl (wr_1_13 w) ?_
          refine aw_iload_n (i := 1) rfl d_X12_wake_104 1 rfl ?_
          obtain ⟨b17, k⟩ := k
          refine aw_iald (ws_209 w) b17 d_X12_wake_105 ?_
          refine aw_vi (v2 := (h_i h 209 x1.toNatClampNeg)) (rfl) ?_
          refine aw_aload_n (i := 0) rfl d_X12_wake_106 0 rfl ?_
          refine aw_getr (k0 := 22) kc_12 (ws_1 w) (Nat.le_of_ble_eq_true rfl) tw_1764 d_X12_wake_107 rfl (wr_1_22 w) ?_
          refine aw_iload_n (i := 1) rfl d_X12_wake_110 1 rfl ?_
          obtain ⟨b18, k⟩ := k
          refine aw_iald (ws_218 w) b18 d_X12_wake_111 ?_
          refine aw_vi (v2 := (h_i h 218 x1.toNatClampNeg)) (rfl) ?_
          refine aw_icmp_ne (tgt := 132) d_X12_wake_112 rfl (fun c19 => ?_) (fun c19 => ?_)
          · have k := k.1 c19
            refine aw_aload_n (i := 0) rfl d_X12_wake_132 0 rfl ?_
            refine aw_getr (k0 := 65) kc_12 (ws_1 w) (Nat.le_of_ble_eq_true rfl) tw_1807 d_X12_wake_133 rfl (wr_1_65 w) ?_
            refine aw_iload_n (i := 1) rfl d_X12_wake_136 1 rfl ?_
            refine aw_iconst (v := 1) d_X12_wake_137 ic_1 ?_
            obtain ⟨b20, k⟩ := k
            refine aw_zast (ws_248 w) b20 d_X12_wake_138 ?_
            refine aw_aload_n (i := 0) rfl d_X12_wake_139 0 rfl ?_
            refine aw_iload_n (i := 1) rfl d_X12_wake_140 1 rfl ?_
            refine aw_Vv 1 [.int x1] [] d_X12_wake_141 (cV_X12_goDrawn (d + 4) 0 0) kc_12 (ws_1 w) tw_2368 rfl (rr0 (Nat.le_of_ble_eq_true rfl) (Nat.le_of_ble_eq_true rfl)) (Nat.le_of_ble_eq_true rfl) xs0 k (fun h21 kk => ?_)
            obtain ⟨w22, k⟩ := kk
            refine aw_goto (tgt := 163) d_X12_wake_144 rfl ?_
            exact aw_vret rfl d_X12_wake_163 ⟨Nat.le_refl _, Nat.le_refl _⟩ ⟨rfl, k⟩
          · have k := k.2 c19
            refine aw_aload_n (i := 0) rfl d_X12_wake_115 0 rfl ?_
            refine aw_getr (k0 := 65) kc_12 (ws_1 w) (Nat.le_of_ble_eq_true rfl) tw_1807 d_X12_wake_116 rfl (wr_1_65 w) ?_
            refine aw_iload_n (i := 1) rfl d_X12_wake_119 1 rfl ?_
            obtain ⟨b24, k⟩ := k
            refine aw_zald (ws_248 w) b24 d_X12_wake_120 ?_
            refine aw_vi (v2 := (h_i h 248 x1.toNatClampNeg)) (rfl) ?_
            refine aw_if_eq (tgt := 132) d_X12_wake_121 rfl (fun c25 => ?_) (fun c25 => ?_)
            · have k := k.1 c25
              refine aw_aload_n (i := 0) rfl d_X12_wake_132 0 rfl ?_
              refine aw_getr (k0 := 65) kc_12 (ws_1 w) (Nat.le_of_ble_eq_true rfl) tw_1807 d_X12_wake_133 rfl (wr_1_65 w) ?_
              refine aw_iload_n (i := 1) rfl d_X12_wake_136 1 rfl ?_
              refine aw_iconst (v := 1) d_X12_wake_137 ic_1 ?_
              obtain ⟨b26, k⟩ := k
              refine aw_zast (ws_248 w) b26 d_X12_wake_138 ?_
              refine aw_aload_n (i := 0) rfl d_X12_wake_139 0 rfl ?_
              refine aw_iload_n (i := 1) rfl d_X12_wake_140 1 rfl ?_
              refine aw_Vv 1 [.int x1] [] d_X12_wake_141 (cV_X12_goDrawn (d + 4) 0 0) kc_12 (ws_1 w) tw_2368 rfl (rr0 (Nat.le_of_ble_eq_true rfl) (Nat.le_of_ble_eq_true rfl)) (Nat.le_of_ble_eq_true rfl) xs0 k (fun h27 kk => ?_)
              obtain ⟨w28, k⟩ := kk
              refine aw_goto (tgt := 163) d_X12_wake_144 rfl ?_
              exact aw_vret rfl d_X12_wake_163 ⟨Nat.le_refl _, Nat.le_refl _⟩ ⟨rfl, k⟩
            · have k := k.2 c25
              refine aw_aload_n (i := 0) rfl d_X12_wake_124 0 rfl ?_
              refine aw_iload_n (i := 1) rfl d_X12_wake_125 1 rfl ?_
              refine aw_Vv 1 [.int x1] [] d_X12_wake_126 (cV_X12_stay (d + 3) 0 0) kc_12 (ws_1 w) tw_2372 rfl (rr0 (Nat.le_of_ble_eq_true rfl) (Nat.le_of_ble_eq_true rfl)) (Nat.le_of_ble_eq_true rfl) xs0 k (fun h30 kk => ?_)
              obtain ⟨w31, k⟩ := kk
              refine aw_goto (tgt := 163) d_X12_wake_129 rfl ?_
              exact aw_vret rfl d_X12_wake_163 ⟨Nat.le_refl _, Nat.le_refl _⟩ ⟨rfl, k⟩
        · have k := k.2 c16
          refine aw_aload_n (i := 0) rfl d_X12_wake_92 0 rfl ?_
          refine aw_iload_n (i := 1) rfl d_X12_wake_93 1 rfl ?_
          refine aw_Vv 1 [.int x1] [] d_X12_wake_94 (cV_X12_goHome (d + 2) 0 0) kc_12 (ws_1 w) tw_2340 rfl (rr0 (Nat.le_of_ble_eq_true rfl) (Nat.le_of_ble_eq_true rfl)) (Nat.le_of_ble_eq_true rfl) xs0 k (fun h33 kk => ?_)
          obtain ⟨w34, k⟩ := kk
          refine aw_goto (tgt := 163) d_X12_wake_97 rfl ?_
          exact aw_vret rfl d_X12_wake_163 ⟨Nat.le_refl _, Nat.le_refl _⟩ ⟨rfl, k⟩
    · have k := k.2 c8
      refine aw_aload_n (i := 0) rfl d_X12_wake_70 0 rfl ?_
      refine aw_iload_n (i := 1) rfl d_X12_wake_71 1 rfl ?_
      refine aw_Vv 1 [.int x1] [] d_X12_wake_72 (cV_X12_free (d + 0) 0 0) kc_12 (ws_1 w) tw_2344 rfl (rr0 (Nat.le_of_ble_eq_true rfl) (Nat.le_of_ble_eq_true rfl)) (Nat.le_of_ble_eq_true rfl) xs0 k (fun h36 kk => ?_)
      obtain ⟨w37, k⟩ := kk
      refine aw_goto (tgt := 163) d_X12_wake_75 rfl ?_
      exact aw_vret rfl d_X12_wake_163 ⟨Nat.le_refl _, Nat.le_refl _⟩ ⟨rfl, k⟩
  · have k := k.2 c5
    refine aw_aload_n (i := 0) rfl d_X12_wake_34 0 rfl ?_
    refine aw_getr (k0 := 13) kc_12 (ws_1 w) (Nat.le_of_ble_eq_true rfl) tw_1755 d_X12_wake_35 rfl (wr_1_13 w) ?_
    refine aw_iload_n (i := 1) rfl d_X12_wake_38 1 rfl ?_
    refine aw_aload_n (i := 0) rfl d_X12_wake_39 0 rfl ?_
    refine aw_getr (k0 := 14) kc_12 (ws_1 w) (Nat.le_of_ble_eq_true rfl) tw_1756 d_X12_wake_40 rfl (wr_1_14 w) ?_
    refine aw_iload_n (i := 1) rfl d_X12_wake_43 1 rfl ?_
    obtain ⟨b39, k⟩ := k
    refine aw_iald (ws_210 w) b39 d_X12_wake_44 ?_
    obtain ⟨b40, k⟩ := k
    refine aw_iast (ws_209 w) b40 d_X12_wake_45 ?_
    refine aw_aload_n (i := 0) rfl d_X12_wake_46 0 rfl ?_
    refine aw_getr (k0 := 14) kc_12 (ws_1 w) (Nat.le_of_ble_eq_true rfl) tw_1756 d_X12_wake_47 rfl (wr_1_14 w) ?_
    refine aw_iload_n (i := 1) rfl d_X12_wake_50 1 rfl ?_
    refine aw_iconst (v := (-1)) d_X12_wake_51 ic_m1 ?_
    obtain ⟨b41, k⟩ := k
    refine aw_iast (ws_210 w) b41 d_X12_wake_52 ?_
    refine aw_aload_n (i := 0) rfl d_X12_wake_53 0 rfl ?_
    refine aw_getr (k0 := 15) kc_12 (ws_1 w) (Nat.le_of_ble_eq_true rfl) tw_1757 d_X12_wake_54 rfl (wr_1_15 w) ?_
    refine aw_iload_n (i := 1) rfl d_X12_wake_57 1 rfl ?_
    refine aw_iconst (v := (-1)) d_X12_wake_58 ic_m1 ?_
    obtain ⟨b42, k⟩ := k
    refine aw_iast (ws_211 w) b42 d_X12_wake_59 ?_
    refine aw_aload_n (i := 0) rfl d_X12_wake_60 0 rfl ?_
    refine aw_getr (k0 := 12) kc_12 (ws_1 w) (Nat.le_of_ble_eq_true rfl) tw_1754 d_X12_wake_61 rfl (wr_1_12 w) ?_
    refine aw_iload_n (i := 1) rfl d_X12_wake_64 1 rfl ?_
    obtain ⟨b43, k⟩ := k
    refine aw_iald (ws_208 w) b43 d_X12_wake_65 ?_
    refine aw_vi (v2 := (h_i h 208 x1.toNatClampNeg)) (rfl) ?_
    refine aw_iconst (v := 2) d_X12_wake_66 ic_2 ?_
    refine aw_icmp_ne (tgt := 78) d_X12_wake_67 rfl (fun c44 => ?_) (fun c44 => ?_)
    · have k := k.1 c44
      refine aw_aload_n (i := 0) rfl d_X12_wake_78 0 rfl ?_
      refine aw_getr (k0 := 12) kc_12 (ws_1 w) (Nat.le_of_ble_eq_true rfl) tw_1754 d_X12_wake_79 rfl (wr_1_12 w) ?_
      refine aw_iload_n (i := 1) rfl d_X12_wake_82 1 rfl ?_
      obtain ⟨b45, k⟩ := k
      refine aw_iald (ws_208 w) b45 d_X12_wake_83 ?_
      refine aw_vi (v2 := (h_i h 208 x1.toNatClampNeg)) (rfl) ?_
      refine aw_iconst (v := 3) d_X12_wake_84 ic_3 ?_
      refine aw_icmp_ne (tgt := 147) d_X12_wake_85 rfl (fun c46 => ?_) (fun c46 => ?_)
      · have k := k.1 c46
        refine aw_aload_n (i := 0) rfl d_X12_wake_147 0 rfl ?_
        refine aw_getr (k0 := 12) kc_12 (ws_1 w) (Nat.le_of_ble_eq_true rfl) tw_1754 d_X12_wake_148 rfl (wr_1_12 w) ?_
        refine aw_iload_n (i := 1) rfl d_X12_wake_151 1 rfl ?_
        obtain ⟨b47, k⟩ := k
        refine aw_iald (ws_208 w) b47 d_X12_wake_152 ?_
        refine aw_vi (v2 := (h_i h 208 x1.toNatClampNeg)) (rfl) ?_
        refine aw_iconst (v := 1) d_X12_wake_153 ic_1 ?_
        refine aw_icmp_ne (tgt := 163) d_X12_wake_154 rfl (fun c48 => ?_) (fun c48 => ?_)
        · have k := k.1 c48
          exact aw_vret rfl d_X12_wake_163 ⟨Nat.le_refl _, Nat.le_refl _⟩ ⟨rfl, k⟩
        · have k := k.2 c48
          refine aw_aload_n (i := 0) rfl d_X12_wake_157 0 rfl ?_
          refine aw_iload_n (i := 1) rfl d_X12_wake_158 1 rfl ?_
          refine aw_iload_n (i := 2) rfl d_X12_wake_159 2 rfl ?_
          refine aw_Vv 1 [.int x1, .int s0] [] d_X12_wake_160 (cV_X12_wakeBeat (d + 8) 0 0) kc_12 (ws_1 w) tw_2388 rfl (rr0 (Nat.le_of_ble_eq_true rfl) (Nat.le_of_ble_eq_true rfl)) (Nat.le_of_ble_eq_true rfl) xs0 k (fun h49 kk => ?_)
          obtain ⟨w50, k⟩ := kk
          exact aw_vret rfl d_X12_wake_163 ⟨Nat.le_refl _, Nat.le_refl _⟩ ⟨rfl, k⟩
      · have k := k.2 c46
        refine aw_iload_n (i := 2) rfl d_X12_wake_88 2 rfl ?_
        refine aw_if_ne (tgt := 100) d_X12_wake_89 rfl (fun c52 => ?_) (fun c52 => ?_)
        · have k := k.1 c52
          refine aw_aload_n (i := 0) rfl d_X12_wake_100 0 rfl ?_
          refine aw_getr (k0 := 13) kc_12 (ws_1 w) (Nat.le_of_ble_eq_true rfl) tw_1755 d_X12_wake_101 rfl (wr_1_13 w) ?_
          refine aw_iload_n (i := 1) rfl d_X12_wake_104 1 rfl ?_
          obtain ⟨b53, k⟩ := k
          refine aw_iald (ws_209 w) b53 d_X12_wake_105 ?_
          refine aw_vi (v2 := (h_i h 210 x1.toNatClampNeg)) (hi_s h 209 x1.toNatClampNeg (h_i h 210 x1.toNatClampNeg)) ?_
          refine aw_aload_n (i := 0) rfl d_X12_wake_106 0 rfl ?_
          refine aw_getr (k0 := 22) kc_12 (ws_1 w) (Nat.le_of_ble_eq_true rfl) tw_1764 d_X12_wake_107 rfl (wr_1_22 w) ?_
          refine aw_iload_n (i := 1) rfl d_X12_wake_110 1 rfl ?_
          obtain ⟨b54, k⟩ := k
          refine aw_iald (ws_218 w) b54 d_X12_wake_111 ?_
          refine aw_vi (v2 := (h_i h 218 x1.toNatClampNeg)) (rfl) ?_
          refine aw_icmp_ne (tgt := 132) d_X12_wake_112 rfl (fun c55 => ?_) (fun c55 => ?_)
          · have k := k.1 c55
            refine aw_aload_n (i := 0) rfl d_X12_wake_132 0 rfl ?_
            refine aw_getr (k0 := 65) kc_12 (ws_1 w) (Nat.le_of_ble_eq_true rfl) tw_1807 d_X12_wake_133 rfl (wr_1_65 w) ?_
            refine aw_iload_n (i := 1) rfl d_X12_wake_136 1 rfl ?_
            refine aw_iconst (v := 1) d_X12_wake_137 ic_1 ?_
            obtain ⟨b56, k⟩ := k
            refine aw_zast (ws_248 w) b56 d_X12_wake_138 ?_
            refine aw_aload_n (i := 0) rfl d_X12_wake_139 0 rfl ?_
            refine aw_iload_n (i := 1) rfl d_X12_wake_140 1 rfl ?_
            refine aw_Vv 1 [.int x1] [] d_X12_wake_141 (cV_X12_goDrawn (d + 4) 0 0) kc_12 (ws_1 w) tw_2368 rfl (rr0 (Nat.le_of_ble_eq_true rfl) (Nat.le_of_ble_eq_true rfl)) (Nat.le_of_ble_eq_true rfl) xs0 k (fun h57 kk => ?_)
            obtain ⟨w58, k⟩ := kk
            refine aw_goto (tgt := 163) d_X12_wake_144 rfl ?_
            exact aw_vret rfl d_X12_wake_163 ⟨Nat.le_refl _, Nat.le_refl _⟩ ⟨rfl, k⟩
          · have k := k.2 c55
            refine aw_aload_n (i := 0) rfl d_X12_wake_115 0 rfl ?_
            refine aw_getr (k0 := 65) kc_12 (ws_1 w) (Nat.le_of_ble_eq_true rfl) tw_1807 d_X12_wake_116 rfl (wr_1_65 w) ?_
            refine aw_iload_n (i := 1) rfl d_X12_wake_119 1 rfl ?_
            obtain ⟨b60, k⟩ := k
            refine aw_zald (ws_248 w) b60 d_X12_wake_120 ?_
            refine aw_vi (v2 := (h_i h 248 x1.toNatClampNeg)) (rfl) ?_
            refine aw_if_eq (tgt := 132) d_X12_wake_121 rfl (fun c61 => ?_) (fun c61 => ?_)
            · have k := k.1 c61
              refine aw_aload_n (i := 0) rfl d_X12_wake_132 0 rfl ?_
              refine aw_getr (k0 := 65) kc_12 (ws_1 w) (Nat.le_of_ble_eq_true rfl) tw_1807 d_X12_wake_133 rfl (wr_1_65 w) ?_
              refine aw_iload_n (i := 1) rfl d_X12_wake_136 1 rfl ?_
              refine aw_iconst (v := 1) d_X12_wake_137 ic_1 ?_
              obtain ⟨b62, k⟩ := k
              refine aw_zast (ws_248 w) b62 d_X12_wake_138 ?_
              refine aw_aload_n (i := 0) rfl d_X12_wake_139 0 rfl ?_
              refine aw_iload_n (i := 1) rfl d_X12_wake_140 1 rfl ?_
              refine aw_Vv 1 [.int x1] [] d_X12_wake_141 (cV_X12_goDrawn (d + 4) 0 0) kc_12 (ws_1 w) tw_2368 rfl (rr0 (Nat.le_of_ble_eq_true rfl) (Nat.le_of_ble_eq_true rfl)) (Nat.le_of_ble_eq_true rfl) xs0 k (fun h63 kk => ?_)
              obtain ⟨w64, k⟩ := kk
              refine aw_goto (tgt := 163) d_X12_wake_144 rfl ?_
              exact aw_vret rfl d_X12_wake_163 ⟨Nat.le_refl _, Nat.le_refl _⟩ ⟨rfl, k⟩
            · have k := k.2 c61
              refine aw_aload_n (i := 0) rfl d_X12_wake_124 0 rfl ?_
              refine aw_iload_n (i := 1) rfl d_X12_wake_125 1 rfl ?_
              refine aw_Vv 1 [.int x1] [] d_X12_wake_126 (cV_X12_stay (d + 3) 0 0) kc_12 (ws_1 w) tw_2372 rfl (rr0 (Nat.le_of_ble_eq_true rfl) (Nat.le_of_ble_eq_true rfl)) (Nat.le_of_ble_eq_true rfl) xs0 k (fun h66 kk => ?_)
              obtain ⟨w67, k⟩ := kk
              refine aw_goto (tgt := 163) d_X12_wake_129 rfl ?_
              exact aw_vret rfl d_X12_wake_163 ⟨Nat.le_refl _, Nat.le_refl _⟩ ⟨rfl, k⟩
        · have k := k.2 c52
          refine aw_aload_n (i := 0) rfl d_X12_wake_92 0 rfl ?_
          refine aw_iload_n (i := 1) rfl d_X12_wake_93 1 rfl ?_
          refine aw_Vv 1 [.int x1] [] d_X12_wake_94 (cV_X12_goHome (d + 2) 0 0) kc_12 (ws_1 w) tw_2340 rfl (rr0 (Nat.le_of_ble_eq_true rfl) (Nat.le_of_ble_eq_true rfl)) (Nat.le_of_ble_eq_true rfl) xs0 k (fun h69 kk => ?_)
          obtain ⟨w70, k⟩ := kk
          refine aw_goto (tgt := 163) d_X12_wake_97 rfl ?_
          exact aw_vret rfl d_X12_wake_163 ⟨Nat.le_refl _, Nat.le_refl _⟩ ⟨rfl, k⟩
    · have k := k.2 c44
      refine aw_aload_n (i := 0) rfl d_X12_wake_70 0 rfl ?_
      refine aw_iload_n (i := 1) rfl d_X12_wake_71 1 rfl ?_
      refine aw_Vv 1 [.int x1] [] d_X12_wake_72 (cV_X12_free (d + 0) 0 0) kc_12 (ws_1 w) tw_2344 rfl (rr0 (Nat.le_of_ble_eq_true rfl) (Nat.le_of_ble_eq_true rfl)) (Nat.le_of_ble_eq_true rfl) xs0 k (fun h72 kk => ?_)
      obtain ⟨w73, k⟩ := kk
      refine aw_goto (tgt := 163) d_X12_wake_75 rfl ?_
      exact aw_vret rfl d_X12_wake_163 ⟨Nat.le_refl _, Nat.le_refl _⟩ ⟨rfl, k⟩
theorem t_X12_tick (d : Nat) (h : Hp_) (w : Wf h) (x1 : Int32) (K : Int32 → Hp_ → Prop) (k : (¬ (0 ≤ x1 ∧ x1 ≤ 1500) → K (-1) h) ∧ ((0 ≤ x1 ∧ x1 ≤ 1500) → (((h_i h 1 0) + x1) ≤ 20000 → AW (m_X12_tick (d + 10) 0 0) 0 0 27 [(0, .ref 1), (1, .int x1), (2, .int 0)] [] h (kI K)) ∧ (¬ ((h_i h 1 0) + x1) ≤ 20000 → K (-1) h))) : Ci (m_X12_tick (d + 10) 0 0) [.ref 1, .int x1] h K := by
  refine Ct.of (fun _ _ _ => trivial) rfl (Nat.le_of_ble_eq_true rfl) ?_
  show AW (m_X12_tick (d + 10) 0 0) 0 0 0 [(0, .ref 1), (1, .int x1)] [] h (kI K)
  refine aw_iload_n (i := 1) rfl d_X12_tick_0 1 rfl ?_
  refine aw_iconst (v := 0) d_X12_tick_1 ic_0 ?_
  refine aw_sipush (v := 1500) d_X12_tick_2 is_1500 ?_
  refine aw_Si [.int x1, .int 0, .int 1500] [] d_X12_tick_5 (cS_X12_in (d + 0) 0 0) tw_2143 rfl (rr0 (Nat.le_of_ble_eq_true rfl) (Nat.le_of_ble_eq_true rfl)) (Nat.le_of_ble_eq_true rfl) xs0 (s_X12_in _ _ x1 0 1500) (fun _ _ kk => ?_)
  obtain ⟨e1, e2⟩ := kk
  rw [e1, e2]
  refine aw_ifb_eq (tgt := 23) d_X12_tick_8 rfl (fun c3 => ?_) (fun c3 => ?_)
  · have k := k.1 c3
    refine aw_iconst (v := (-1)) d_X12_tick_23 ic_m1 ?_
    exact aw_iret rfl d_X12_tick_24 ⟨Nat.le_refl _, Nat.le_refl _⟩ ⟨_, rfl, k⟩
  · have k := k.2 c3
    refine aw_aload_n (i := 0) rfl d_X12_tick_11 0 rfl ?_
    refine aw_geti (k0 := 0) kc_12 (ws_1 w) (Nat.le_of_ble_eq_true rfl) tw_1742 d_X12_tick_12 rfl ?_
    refine aw_iload_n (i := 1) rfl d_X12_tick_15 1 rfl ?_
    refine aw_iadd d_X12_tick_16 ?_
    refine aw_sipush (v := 20000) d_X12_tick_17 is_20000 ?_
    refine aw_icmp_le (tgt := 25) d_X12_tick_20 rfl (fun c4 => ?_) (fun c4 => ?_)
    · have k := k.1 c4
      refine aw_iconst (v := 0) d_X12_tick_25 ic_0 ?_
      refine aw_istore_n (i := 2) rfl [(0, .ref 1), (1, .int x1), (2, .int 0)] d_X12_tick_26 (Nat.le_of_ble_eq_true rfl) rfl rfl ?_
      exact k
    · have k := k.2 c4
      refine aw_iconst (v := (-1)) d_X12_tick_23 ic_m1 ?_
      exact aw_iret rfl d_X12_tick_24 ⟨Nat.le_refl _, Nat.le_refl _⟩ ⟨_, rfl, k⟩
theorem t_X12_tick_27 (d : Nat) (h : Hp_) (w : Wf h) (x1 : Int32) (x2 : Int32) (K : Int32 → Hp_ → Prop) (k : (x1 ≤ x2 → K (h_i h 1 0) h) ∧ (¬ x1 ≤ x2 → AW (m_X12_tick (d + 10) 0 0) 0 0 34 [(0, .ref 1), (1, .int x1), (2, .int x2), (3, .int 0)] [] h (kI K))) : AW (m_X12_tick (d + 10) 0 0) 0 0 27 [(0, .ref 1), (1, .int x1), (2, .int x2)] [] h (kI K) := by
  refine aw_iload_n (i := 2) rfl d_X12_tick_27 2 rfl ?_
  refine aw_iload_n (i := 1) rfl d_X12_tick_28 1 rfl ?_
  refine aw_icmp_ge (tgt := 107) d_X12_tick_29 rfl (fun c5 => ?_) (fun c5 => ?_)
  · have k := k.1 c5
    refine aw_aload_n (i := 0) rfl d_X12_tick_107 0 rfl ?_
    refine aw_geti (k0 := 0) kc_12 (ws_1 w) (Nat.le_of_ble_eq_true rfl) tw_1742 d_X12_tick_108 rfl ?_
    exact aw_iret rfl d_X12_tick_111 ⟨Nat.le_refl _, Nat.le_refl _⟩ ⟨_, rfl, k⟩
  · have k := k.2 c5
    refine aw_iconst (v := 0) d_X12_tick_32 ic_0 ?_
    refine aw_istore_n (i := 3) rfl [(0, .ref 1), (1, .int x1), (2, .int x2), (3, .int 0)] d_X12_tick_33 (Nat.le_of_ble_eq_true rfl) rfl rfl ?_
    exact k
theorem t_X12_tick_34 (d : Nat) (h : Hp_) (w : Wf h) (x1 : Int32) (x2 : Int32) (x3 : Int32) (K : Int32 → Hp_ → Prop) (k : ((h_i h 1 7) ≤ x3 → AW (m_X12_tick (d + 10) 0 0) 0 0 82 [(0, .ref 1), (1, .int x1), (2, .int x2), (3, .int 0)] [] (h_im h 1 0 ((h_i h 1 0) + 1)) (kI K)) ∧ (¬ (h_i h 1 7) ≤ x3 → vp_in x3 12 ∧ (vp_in ((20001 * x3) + (h_i h 1 0)) 240012 ∧ (AW (m_X12_tick (d + 10) 0 0) 0 0 34 [(0, .ref 1), (1, .int x1), (2, .int x2), (3, .int (x3 + 1))] [] (h_im h 220 (((20001 * x3) + (h_i h 1 0)) : Int32).toNatClampNeg (vp_nar .byte (((h_i h 209 x3.toNatClampNeg) : Int32).toInt8.toInt32))) (kI K))))) : AW (m_X12_tick (d + 10) 0 0) 0 0 34 [(0, .ref 1), (1, .int x1), (2, .int x2), (3, .int x3)] [] h (kI K) := by
  refine aw_iload_n (i := 3) rfl d_X12_tick_34 3 rfl ?_
  refine aw_aload_n (i := 0) rfl d_X12_tick_35 0 rfl ?_
  refine aw_geti (k0 := 7) kc_12 (ws_1 w) (Nat.le_of_ble_eq_true rfl) tw_1749 d_X12_tick_36 rfl ?_
  refine aw_icmp_ge (tgt := 70) d_X12_tick_39 rfl (fun c6 => ?_) (fun c6 => ?_)
  · have k := k.1 c6
    refine aw_aload_n (i := 0) rfl d_X12_tick_70 0 rfl ?_
    refine aw_dup d_X12_tick_71 rfl ?_
    refine aw_geti (k0 := 0) kc_12 (ws_1 w) (Nat.le_of_ble_eq_true rfl) tw_1742 d_X12_tick_72 rfl ?_
    refine aw_iconst (v := 1) d_X12_tick_75 ic_1 ?_
    refine aw_iadd d_X12_tick_76 ?_
    refine aw_puti (k0 := 0) kc_12 (ws_1 w) (Nat.le_of_ble_eq_true rfl) tw_1742 d_X12_tick_77 rfl rfl nf_i ?_
    refine aw_iconst (v := 0) d_X12_tick_80 ic_0 ?_
    refine aw_istore_n (i := 3) rfl [(0, .ref 1), (1, .int x1), (2, .int x2), (3, .int 0)] d_X12_tick_81 (Nat.le_of_ble_eq_true rfl) rfl rfl ?_
    exact k
  · have k := k.2 c6
    refine aw_aload_n (i := 0) rfl d_X12_tick_42 0 rfl ?_
    refine aw_getr (k0 := 24) kc_12 (ws_1 w) (Nat.le_of_ble_eq_true rfl) tw_1766 d_X12_tick_43 rfl (wr_1_24 w) ?_
    refine aw_sipush (v := 20001) d_X12_tick_46 is_20001 ?_
    refine aw_iload_n (i := 3) rfl d_X12_tick_49 3 rfl ?_
    refine aw_imul d_X12_tick_50 ?_
    refine aw_aload_n (i := 0) rfl d_X12_tick_51 0 rfl ?_
    refine aw_geti (k0 := 0) kc_12 (ws_1 w) (Nat.le_of_ble_eq_true rfl) tw_1742 d_X12_tick_52 rfl ?_
    refine aw_iadd d_X12_tick_55 ?_
    refine aw_aload_n (i := 0) rfl d_X12_tick_56 0 rfl ?_
    refine aw_getr (k0 := 13) kc_12 (ws_1 w) (Nat.le_of_ble_eq_true rfl) tw_1755 d_X12_tick_57 rfl (wr_1_13 w) ?_
    refine aw_iload_n (i := 3) rfl d_X12_tick_60 3 rfl ?_
    obtain ⟨b7, k⟩ := k
    refine aw_iald (ws_209 w) b7 d_X12_tick_61 ?_
    refine aw_i2b d_X12_tick_62 ?_
    obtain ⟨b8, k⟩ := k
    refine aw_bast (ws_220 w) b8 d_X12_tick_63 ?_
    refine aw_iinc (v := (x3 + 1)) [(0, .ref 1), (1, .int x1), (2, .int x2), (3, .int (x3 + 1))] d_X12_tick_64 3 rfl rfl (Nat.le_of_ble_eq_true rfl) rfl rfl ?_
    refine aw_goto (tgt := 34) d_X12_tick_67 rfl ?_
    exact k
theorem t_X12_tick_82 (d : Nat) (h : Hp_) (w : Wf h) (x1 : Int32) (x2 : Int32) (x3 : Int32) (K : Int32 → Hp_ → Prop) (k : ((h_i h 1 7) ≤ x3 → AW (m_X12_tick (d + 10) 0 0) 0 0 27 [(0, .ref 1), (1, .int x1), (2, .int (x2 + 1))] [] h (kI K)) ∧ (¬ (h_i h 1 7) ≤ x3 → Cv (m_X12_wake (d + 9) 0 0) [.ref 1, .int x3] h (fun h10 => Wf h10 ∧ (AW (m_X12_tick (d + 10) 0 0) 0 0 82 [(0, .ref 1), (1, .int x1), (2, .int x2), (3, .int (x3 + 1))] [] h10 (kI K))))) : AW (m_X12_tick (d + 10) 0 0) 0 0 82 [(0, .ref 1), (1, .int x1), (2, .int x2), (3, .int x3)] [] h (kI K) := by
  refine aw_iload_n (i := 3) rfl d_X12_tick_82 3 rfl ?_
  refine aw_aload_n (i := 0) rfl d_X12_tick_83 0 rfl ?_
  refine aw_geti (k0 := 7) kc_12 (ws_1 w) (Nat.le_of_ble_eq_true rfl) tw_1749 d_X12_tick_84 rfl ?_
  refine aw_icmp_ge (tgt := 101) d_X12_tick_87 rfl (fun c9 => ?_) (fun c9 => ?_)
  · have k := k.1 c9
    refine aw_iinc (v := (x2 + 1)) [(0, .ref 1), (1, .int x1), (2, .int (x2 + 1)), (3, .int x3)] d_X12_tick_101 2 rfl rfl (Nat.le_of_ble_eq_true rfl) rfl rfl ?_
    refine aw_goto (tgt := 27) d_X12_tick_104 rfl ?_
    exact aw_lvp [0, 1, 2] [(0, .ref 1), (1, .int x1), (2, .int (x2 + 1))] rfl k
  · have k := k.2 c9
    refine aw_aload_n (i := 0) rfl d_X12_tick_90 0 rfl ?_
    refine aw_iload_n (i := 3) rfl d_X12_tick_91 3 rfl ?_
    refine aw_Vv 1 [.int x3] [] d_X12_tick_92 (cV_X12_wake (d + 9) 0 0) kc_12 (ws_1 w) tw_2384 rfl (rr0 (Nat.le_of_ble_eq_true rfl) (Nat.le_of_ble_eq_true rfl)) (Nat.le_of_ble_eq_true rfl) xs0 k (fun h10 kk => ?_)
    obtain ⟨w11, k⟩ := kk
    refine aw_iinc (v := (x3 + 1)) [(0, .ref 1), (1, .int x1), (2, .int x2), (3, .int (x3 + 1))] d_X12_tick_95 3 rfl rfl (Nat.le_of_ble_eq_true rfl) rfl rfl ?_
    refine aw_goto (tgt := 82) d_X12_tick_98 rfl ?_
    exact k
