section
theorem t_X12_drop (d : Nat) (h : Hp_) (w : Wf h) (x1 : Int32) (x2 : Int32) (K : Hp_ → Prop) (k : vp_in x1 12 ∧ (vp_in x1 12 ∧ (((h_i h 217 x1.toNatClampNeg) ≤ (h_i h 216 x1.toNatClampNeg) → vp_in x1 12 ∧ (K (h_im h 213 x1.toNatClampNeg (-1)))) ∧ (¬ (h_i h 217 x1.toNatClampNeg) ≤ (h_i h 216 x1.toNatClampNeg) → vp_in x1 12 ∧ (vp_in (h_i h 216 x1.toNatClampNeg) 400 ∧ ((¬ (h_i h 241 ((h_i h 216 x1.toNatClampNeg) : Int32).toNatClampNeg) = (-1) → vp_in x1 12 ∧ (vp_in x1 12 ∧ (AW (m_X12_drop (d + 1) 0 0) 0 0 0 [(0, .ref 1), (1, .int x1), (2, .int x2)] [] (h_im h 216 x1.toNatClampNeg ((h_i h 216 x1.toNatClampNeg) + 1)) (kV K)))) ∧ ((h_i h 241 ((h_i h 216 x1.toNatClampNeg) : Int32).toNatClampNeg) = (-1) → vp_in x1 12 ∧ (vp_in (h_i h 216 x1.toNatClampNeg) 400 ∧ ((¬ (h_i h 242 ((h_i h 216 x1.toNatClampNeg) : Int32).toNatClampNeg) = (-1) → vp_in x1 12 ∧ (vp_in x1 12 ∧ (AW (m_X12_drop (d + 1) 0 0) 0 0 0 [(0, .ref 1), (1, .int x1), (2, .int x2)] [] (h_im h 216 x1.toNatClampNeg ((h_i h 216 x1.toNatClampNeg) + 1)) (kV K)))) ∧ ((h_i h 242 ((h_i h 216 x1.toNatClampNeg) : Int32).toNatClampNeg) = (-1) → vp_in x1 12 ∧ (Cv (m_X12_miss (d + 0) 0 0) [.ref 1, .int (h_i h 216 x1.toNatClampNeg), .int x2] h (fun h16 => Wf h16 ∧ (vp_in x1 12 ∧ (vp_in x1 12 ∧ (AW (m_X12_drop (d + 1) 0 0) 0 0 0 [(0, .ref 1), (1, .int x1), (2, .int x2)] [] (h_im h16 216 x1.toNatClampNeg ((h_i h16 216 x1.toNatClampNeg) + 1)) (kV K)))))))))))))))) : Cv (m_X12_drop (d + 1) 0 0) [.ref 1, .int x1, .int x2] h K := by
  refine Ct.of (fun _ _ _ => trivial) rfl (Nat.le_of_ble_eq_true rfl) ?_
  show AW (m_X12_drop (d + 1) 0 0) 0 0 0 [(0, .ref 1), (1, .int x1), (2, .int x2)] [] h (kV K)
  refine aw_aload_n (i := 0) rfl d_X12_drop_0 0 rfl ?_
  refine aw_getr (k0 := 20) kc_12 (ws_1 w) (Nat.le_of_ble_eq_true rfl) tw_1762 d_X12_drop_1 rfl (wr_1_20 w) ?_
  refine aw_iload_n (i := 1) rfl d_X12_drop_4 1 rfl ?_
  obtain ⟨b1, k⟩ := k
  refine aw_iald (ws_216 w) b1 d_X12_drop_5 ?_
  refine aw_aload_n (i := 0) rfl d_X12_drop_6 0 rfl ?_
  refine aw_getr (k0 := 21) kc_12 (ws_1 w) (Nat.le_of_ble_eq_true rfl) tw_1763 d_X12_drop_7 rfl (wr_1_21 w) ?_
  refine aw_iload_n (i := 1) rfl d_X12_drop_10 1 rfl ?_
  obtain ⟨b2, k⟩ := k
  refine aw_iald (ws_217 w) b2 d_X12_drop_11 ?_
  refine aw_icmp_ge (tgt := 69) d_X12_drop_12 rfl (fun c3 => ?_) (fun c3 => ?_)
  · have k := k.1 c3
    refine aw_aload_n (i := 0) rfl d_X12_drop_69 0 rfl ?_
    refine aw_getr (k0 := 17) kc_12 (ws_1 w) (Nat.le_of_ble_eq_true rfl) tw_1759 d_X12_drop_70 rfl (wr_1_17 w) ?_
    refine aw_iload_n (i := 1) rfl d_X12_drop_73 1 rfl ?_
    refine aw_iconst (v := (-1)) d_X12_drop_74 ic_m1 ?_
    obtain ⟨b4, k⟩ := k
    refine aw_iast (ws_213 w) b4 d_X12_drop_75 ?_
    exact aw_vret rfl d_X12_drop_76 ⟨Nat.le_refl _, Nat.le_refl _⟩ ⟨rfl, k⟩
  · have k := k.2 c3
    refine aw_aload_n (i := 0) rfl d_X12_drop_15 0 rfl ?_
    refine aw_getr (k0 := 56) kc_12 (ws_1 w) (Nat.le_of_ble_eq_true rfl) tw_1798 d_X12_drop_16 rfl (wr_1_56 w) ?_
    refine aw_aload_n (i := 0) rfl d_X12_drop_19 0 rfl ?_
    refine aw_getr (k0 := 20) kc_12 (ws_1 w) (Nat.le_of_ble_eq_true rfl) tw_1762 d_X12_drop_20 rfl (wr_1_20 w) ?_
    refine aw_iload_n (i := 1) rfl d_X12_drop_23 1 rfl ?_
    obtain ⟨b5, k⟩ := k
    refine aw_iald (ws_216 w) b5 d_X12_drop_24 ?_
    obtain ⟨b6, k⟩ := k
    refine aw_iald (ws_241 w) b6 d_X12_drop_25 ?_
    refine aw_iconst (v := (-1)) d_X12_drop_26 ic_m1 ?_
    refine aw_icmp_ne (tgt := 56) d_X12_drop_27 rfl (fun c7 => ?_) (fun c7 => ?_)
    · have k := k.1 c7
      refine aw_aload_n (i := 0) rfl d_X12_drop_56 0 rfl ?_
      refine aw_getr (k0 := 20) kc_12 (ws_1 w) (Nat.le_of_ble_eq_true rfl) tw_1762 d_X12_drop_57 rfl (wr_1_20 w) ?_
      refine aw_iload_n (i := 1) rfl d_X12_drop_60 1 rfl ?_
      refine aw_dup2 d_X12_drop_61 ⟨rfl, rfl⟩ ?_
      obtain ⟨b8, k⟩ := k
      refine aw_iald (ws_216 w) b8 d_X12_drop_62 ?_
      refine aw_iconst (v := 1) d_X12_drop_63 ic_1 ?_
      refine aw_iadd d_X12_drop_64 ?_
      obtain ⟨b9, k⟩ := k
      refine aw_iast (ws_216 w) b9 d_X12_drop_65 ?_
      refine aw_goto (tgt := 0) d_X12_drop_66 rfl ?_
      exact k
    · have k := k.2 c7
      refine aw_aload_n (i := 0) rfl d_X12_drop_30 0 rfl ?_
      refine aw_getr (k0 := 57) kc_12 (ws_1 w) (Nat.le_of_ble_eq_true rfl) tw_1799 d_X12_drop_31 rfl (wr_1_57 w) ?_
      refine aw_aload_n (i := 0) rfl d_X12_drop_34 0 rfl ?_
      refine aw_getr (k0 := 20) kc_12 (ws_1 w) (Nat.le_of_ble_eq_true rfl) tw_1762 d_X12_drop_35 rfl (wr_1_20 w) ?_
      refine aw_iload_n (i := 1) rfl d_X12_drop_38 1 rfl ?_
      obtain ⟨b10, k⟩ := k
      refine aw_iald (ws_216 w) b10 d_X12_drop_39 ?_
      obtain ⟨b11, k⟩ := k
      refine aw_iald (ws_242 w) b11 d_X12_drop_40 ?_
      refine aw_iconst (v := (-1)) d_X12_drop_41 ic_m1 ?_
      refine aw_icmp_ne (tgt := 56) d_X12_drop_42 rfl (fun c12 => ?_) (fun c12 => ?_)
      · have k := k.1 c12
        refine aw_aload_n (i := 0) rfl d_X12_drop_56 0 rfl ?_
        refine aw_getr (k0 := 20) kc_12 (ws_1 w) (Nat.le_of_ble_eq_true rfl) tw_1762 d_X12_drop_57 rfl (wr_1_20 w) ?_
        refine aw_iload_n (i := 1) rfl d_X12_drop_60 1 rfl ?_
        refine aw_dup2 d_X12_drop_61 ⟨rfl, rfl⟩ ?_
        obtain ⟨b13, k⟩ := k
        refine aw_iald (ws_216 w) b13 d_X12_drop_62 ?_
        refine aw_iconst (v := 1) d_X12_drop_63 ic_1 ?_
        refine aw_iadd d_X12_drop_64 ?_
        obtain ⟨b14, k⟩ := k
        refine aw_iast (ws_216 w) b14 d_X12_drop_65 ?_
        refine aw_goto (tgt := 0) d_X12_drop_66 rfl ?_
        exact k
      · have k := k.2 c12
        refine aw_aload_n (i := 0) rfl d_X12_drop_45 0 rfl ?_
        refine aw_aload_n (i := 0) rfl d_X12_drop_46 0 rfl ?_
        refine aw_getr (k0 := 20) kc_12 (ws_1 w) (Nat.le_of_ble_eq_true rfl) tw_1762 d_X12_drop_47 rfl (wr_1_20 w) ?_
        refine aw_iload_n (i := 1) rfl d_X12_drop_50 1 rfl ?_
        obtain ⟨b15, k⟩ := k
        refine aw_iald (ws_216 w) b15 d_X12_drop_51 ?_
        refine aw_iload_n (i := 2) rfl d_X12_drop_52 2 rfl ?_
        refine aw_Vv 1 [.int (h_i h 216 x1.toNatClampNeg), .int x2] [] d_X12_drop_53 (cV_X12_miss (d + 0) 0 0) kc_12 (ws_1 w) tw_2352 rfl (rr0 (Nat.le_of_ble_eq_true rfl) (Nat.le_of_ble_eq_true rfl)) (Nat.le_of_ble_eq_true rfl) xs0 k (fun h16 kk => ?_)
        obtain ⟨w17, k⟩ := kk
        refine aw_aload_n (i := 0) rfl d_X12_drop_56 0 rfl ?_
        refine aw_getr (k0 := 20) kc_12 (ws_1 w17) (Nat.le_of_ble_eq_true rfl) tw_1762 d_X12_drop_57 rfl (wr_1_20 w17) ?_
        refine aw_iload_n (i := 1) rfl d_X12_drop_60 1 rfl ?_
        refine aw_dup2 d_X12_drop_61 ⟨rfl, rfl⟩ ?_
        obtain ⟨b19, k⟩ := k
        refine aw_iald (ws_216 w17) b19 d_X12_drop_62 ?_
        refine aw_iconst (v := 1) d_X12_drop_63 ic_1 ?_
        refine aw_iadd d_X12_drop_64 ?_
        obtain ⟨b20, k⟩ := k
        refine aw_iast (ws_216 w17) b20 d_X12_drop_65 ?_
        refine aw_goto (tgt := 0) d_X12_drop_66 rfl ?_
        exact k
theorem t_X12_drop_0 (d : Nat) (h : Hp_) (w : Wf h) (x1 : Int32) (x2 : Int32) (K : Hp_ → Prop) (k : vp_in x1 12 ∧ (vp_in x1 12 ∧ (((h_i h 217 x1.toNatClampNeg) ≤ (h_i h 216 x1.toNatClampNeg) → vp_in x1 12 ∧ (K (h_im h 213 x1.toNatClampNeg (-1)))) ∧ (¬ (h_i h 217 x1.toNatClampNeg) ≤ (h_i h 216 x1.toNatClampNeg) → vp_in x1 12 ∧ (vp_in (h_i h 216 x1.toNatClampNeg) 400 ∧ ((¬ (h_i h 241 ((h_i h 216 x1.toNatClampNeg) : Int32).toNatClampNeg) = (-1) → vp_in x1 12 ∧ (vp_in x1 12 ∧ (AW (m_X12_drop (d + 1) 0 0) 0 0 0 [(0, .ref 1), (1, .int x1), (2, .int x2)] [] (h_im h 216 x1.toNatClampNeg ((h_i h 216 x1.toNatClampNeg) + 1)) (kV K)))) ∧ ((h_i h 241 ((h_i h 216 x1.toNatClampNeg) : Int32).toNatClampNeg) = (-1) → vp_in x1 12 ∧ (vp_in (h_i h 216 x1.toNatClampNeg) 400 ∧ ((¬ (h_i h 242 ((h_i h 216 x1.toNatClampNeg) : Int32).toNatClampNeg) = (-1) → vp_in x1 12 ∧ (vp_in x1 12 ∧ (AW (m_X12_drop (d + 1) 0 0) 0 0 0 [(0, .ref 1), (1, .int x1), (2, .int x2)] [] (h_im h 216 x1.toNatClampNeg ((h_i h 216 x1.toNatClampNeg) + 1)) (kV K)))) ∧ ((h_i h 242 ((h_i h 216 x1.toNatClampNeg) : Int32).toNatClampNeg) = (-1) → vp_in x1 12 ∧ (Cv (m_X12_miss (d + 0) 0 0) [.ref 1, .int (h_i h 216 x1.toNatClampNeg), .int x2] h (fun h36 => Wf h36 ∧ (vp_in x1 12 ∧ (vp_in x1 12 ∧ (AW (m_X12_drop (d + 1) 0 0) 0 0 0 [(0, .ref 1), (1, .int x1), (2, .int x2)] [] (h_im h36 216 x1.toNatClampNeg ((h_i h36 216 x1.toNatClampNeg) + 1)) (kV K)))))))))))))))) : AW (m_X12_drop (d + 1) 0 0) 0 0 0 [(0, .ref 1), (1, .int x1), (2, .int x2)] [] h (kV K) := by
  refine aw_aload_n (i := 0) rfl d_X12_drop_0 0 rfl ?_
  refine aw_getr (k0 := 20) kc_12 (ws_1 w) (Nat.le_of_ble_eq_true rfl) tw_1762 d_X12_drop_1 rfl (wr_1_20 w) ?_
  refine aw_iload_n (i := 1) rfl d_X12_drop_4 1 rfl ?_
  obtain ⟨b21, k⟩ := k
  refine aw_iald (ws_216 w) b21 d_X12_drop_5 ?_
  refine aw_aload_n (i := 0) rfl d_X12_drop_6 0 rfl ?_
  refine aw_getr (k0 := 21) kc_12 (ws_1 w) (Nat.le_of_ble_eq_true rfl) tw_1763 d_X12_drop_7 rfl (wr_1_21 w) ?_
  refine aw_iload_n (i := 1) rfl d_X12_drop_10 1 rfl ?_
  obtain ⟨b22, k⟩ := k
  refine aw_iald (ws_217 w) b22 d_X12_drop_11 ?_
  refine aw_icmp_ge (tgt := 69) d_X12_drop_12 rfl (fun c23 => ?_) (fun c23 => ?_)
  · have k := k.1 c23
    refine aw_aload_n (i := 0) rfl d_X12_drop_69 0 rfl ?_
    refine aw_getr (k0 := 17) kc_12 (ws_1 w) (Nat.le_of_ble_eq_true rfl) tw_1759 d_X12_drop_70 rfl (wr_1_17 w) ?_
    refine aw_iload_n (i := 1) rfl d_X12_drop_73 1 rfl ?_
    refine aw_iconst (v := (-1)) d_X12_drop_74 ic_m1 ?_
    obtain ⟨b24, k⟩ := k
    refine aw_iast (ws_213 w) b24 d_X12_drop_75 ?_
    exact aw_vret rfl d_X12_drop_76 ⟨Nat.le_refl _, Nat.le_refl _⟩ ⟨rfl, k⟩
  · have k := k.2 c23
    refine aw_aload_n (i := 0) rfl d_X12_drop_15 0 rfl ?_
    refine aw_getr (k0 := 56) kc_12 (ws_1 w) (Nat.le_of_ble_eq_true rfl) tw_1798 d_X12_drop_16 rfl (wr_1_56 w) ?_
    refine aw_aload_n (i := 0) rfl d_X12_drop_19 0 rfl ?_
    refine aw_getr (k0 := 20) kc_12 (ws_1 w) (Nat.le_of_ble_eq_true rfl) tw_1762 d_X12_drop_20 rfl (wr_1_20 w) ?_
    refine aw_iload_n (i := 1) rfl d_X12_drop_23 1 rfl ?_
    obtain ⟨b25, k⟩ := k
    refine aw_iald (ws_216 w) b25 d_X12_drop_24 ?_
    obtain ⟨b26, k⟩ := k
    refine aw_iald (ws_241 w) b26 d_X12_drop_25 ?_
    refine aw_iconst (v := (-1)) d_X12_drop_26 ic_m1 ?_
    refine aw_icmp_ne (tgt := 56) d_X12_drop_27 rfl (fun c27 => ?_) (fun c27 => ?_)
    · have k := k.1 c27
      refine aw_aload_n (i := 0) rfl d_X12_drop_56 0 rfl ?_
      refine aw_getr (k0 := 20) kc_12 (ws_1 w) (Nat.le_of_ble_eq_true rfl) tw_1762 d_X12_drop_57 rfl (wr_1_20 w) ?_
      refine aw_iload_n (i := 1) rfl d_X12_drop_60 1 rfl ?_
      refine aw_dup2 d_X12_drop_61 ⟨rfl, rfl⟩ ?_
      obtain ⟨b28, k⟩ := k
      refine aw_iald (ws_216 w) b28 d_X12_drop_62 ?_
      refine aw_iconst (v := 1) d_X12_drop_63 ic_1 ?_
      refine aw_iadd d_X12_drop_64 ?_
      obtain ⟨b29, k⟩ := k
      refine aw_iast (ws_216 w) b29 d_X12_drop_65 ?_
      refine aw_goto (tgt := 0) d_X12_drop_66 rfl ?_
      exact k
    · have k := k.2 c27
      refine aw_aload_n (i := 0) rfl d_X12_drop_30 0 rfl ?_
      refine aw_getr (k0 := 57) kc_12 (ws_1 w) (Nat.le_of_ble_eq_true rfl) tw_1799 d_X12_drop_31 rfl (wr_1_57 w) ?_
      refine aw_aload_n (i := 0) rfl d_X12_drop_34 0 rfl ?_
      refine aw_getr (k0 := 20) kc_12 (ws_1 w) (Nat.le_of_ble_eq_true rfl) tw_1762 d_X12_drop_35 rfl (wr_1_20 w) ?_
      refine aw_iload_n (i := 1) rfl d_X12_drop_38 1 rfl ?_
      obtain ⟨b30, k⟩ := k
      refine aw_iald (ws_216 w) b30 d_X12_drop_39 ?_
      obtain ⟨b31, k⟩ := k
      refine aw_iald (ws_242 w) b31 d_X12_drop_40 ?_
      refine aw_iconst (v := (-1)) d_X12_drop_41 ic_m1 ?_
      refine aw_icmp_ne (tgt := 56) d_X12_drop_42 rfl (fun c32 => ?_) (fun c32 => ?_)
      · have k := k.1 c32
        refine aw_aload_n (i := 0) rfl d_X12_drop_56 0 rfl ?_
        refine aw_getr (k0 := 20) kc_12 (ws_1 w) (Nat.le_of_ble_eq_true rfl) tw_1762 d_X12_drop_57 rfl (wr_1_20 w) ?_
        refine aw_iload_n (i := 1) rfl d_X12_drop_60 1 rfl ?_
        refine aw_dup2 d_X12_drop_61 ⟨rfl, rfl⟩ ?_
        obtain ⟨b33, k⟩ := k
        refine aw_iald (ws_216 w) b33 d_X12_drop_62 ?_
        refine aw_iconst (v := 1) d_X12_drop_63 ic_1 ?_
        refine aw_iadd d_X12_drop_64 ?_
        obtain ⟨b34, k⟩ := k
        refine aw_iast (ws_216 w) b34 d_X12_drop_65 ?_
        refine aw_goto (tgt := 0) d_X12_drop_66 rfl ?_
        exact k
      · have k := k.2 c32
        refine aw_aload_n (i := 0) rfl d_X12_drop_45 0 rfl ?_
        refine aw_aload_n (i := 0) rfl d_X12_drop_46 0 rfl ?_
        refine aw_getr (k0 := 20) kc_12 (ws_1 w) (Nat.le_of_ble_eq_true rfl) tw_1762 d_X12_drop_47 rfl (wr_1_20 w) ?_
        refine aw_iload_n (i := 1) rfl d_X12_drop_50 1 rfl ?_
        obtain ⟨b35, k⟩ := k
        refine aw_iald (ws_216 w) b35 d_X12_drop_51 ?_
        refine aw_iload_n (i := 2) rfl d_X12_drop_52 2 rfl ?_
        refine aw_Vv 1 [.int (h_i h 216 x1.toNatClampNeg), .int x2] [] d_X12_drop_53 (cV_X12_miss (d + 0) 0 0) kc_12 (ws_1 w) tw_2352 rfl (rr0 (Nat.le_of_ble_eq_true rfl) (Nat.le_of_ble_eq_true rfl)) (Nat.le_of_ble_eq_true rfl) xs0 k (fun h36 kk => ?_)
        obtain ⟨w37, k⟩ := kk
        refine aw_aload_n (i := 0) rfl d_X12_drop_56 0 rfl ?_
        refine aw_getr (k0 := 20) kc_12 (ws_1 w37) (Nat.le_of_ble_eq_true rfl) tw_1762 d_X12_drop_57 rfl (wr_1_20 w37) ?_
        refine aw_iload_n (i := 1) rfl d_X12_drop_60 1 rfl ?_
        refine aw_dup2 d_X12_drop_61 ⟨rfl, rfl⟩ ?_
        obtain ⟨b39, k⟩ := k
        refine aw_iald (ws_216 w37) b39 d_X12_drop_62 ?_
        refine aw_iconst (v := 1) d_X12_drop_63 ic_1 ?_
        refine aw_iadd d_X12_drop_64 ?_
        obtain ⟨b40, k⟩ := k
        refine aw_iast (ws_216 w37) b40 d_X12_drop_65 ?_
        refine aw_goto (tgt := 0) d_X12_drop_66 rfl ?_
        exact k
end
section
/-! draw, ill and constable of the reference -/
theorem dr_loop (d : Nat) (h0 : Hp_) (x1 x2 : Int32) (b1 : rin x1.toInt (0, 11)) : ∀ (r : Nat) (h : Hp_), Iv h → Mo x1.toNatClampNeg h0 h → h_i h 208 x1.toNatClampNeg = h_i h0 208 x1.toNatClampNeg ∧ h_i h 210 x1.toNatClampNeg = h_i h0 210 x1.toNatClampNeg → 400 - (h_i h 216 x1.toNatClampNeg).toInt ≤ r →
    AW (m_X12_drop (d + 1) 0 0) 0 0 0 [(0, .ref 1), (1, .int x1), (2, .int x2)] [] h (kV (fun h' => Iv h' ∧ Mo x1.toNatClampNeg h0 h' ∧ h_i h' 208 x1.toNatClampNeg = h_i h0 208 x1.toNatClampNeg ∧ h_i h' 210 x1.toNatClampNeg = h_i h0 210 x1.toNatClampNeg)) := by
  have v1 := dp_in b1 (n := 12) (by decide) (by decide)
  have t1 : (1 : Int32).toInt = 1 := rfl
  intro r
  induction r with
  | zero =>
    intro h I M e m
    have e7 : (h_i h 217 x1.toNatClampNeg).toInt ≤ 400 := (dp_rg I 217 x1.toNatClampNeg (show tfa 217 = some (0, 400) by decide +kernel)).2
    refine t_X12_drop_0 d h I.1 x1 x2 _ ⟨v1, v1, fun _ => ⟨v1, i213 I _ m1_st, M.im (by decide) (fun _ => rfl), by rw [im_ne (by decide)]; exact e.1, by rw [im_ne (by decide)]; exact e.2⟩, fun z => ?_⟩
    have z := q_nle z
    omega
  | succ r ih =>
    intro h I M e m
    have e7 : (h_i h 217 x1.toNatClampNeg).toInt ≤ 400 := (dp_rg I 217 x1.toNatClampNeg (show tfa 217 = some (0, 400) by decide +kernel)).2
    have r0 : 0 ≤ (h_i h 216 x1.toNatClampNeg).toInt := (rw_in I _).1
    refine t_X12_drop_0 d h I.1 x1 x2 _ ⟨v1, v1, fun _ => ⟨v1, i213 I _ m1_st, M.im (by decide) (fun _ => rfl), by rw [im_ne (by decide)]; exact e.1, by rw [im_ne (by decide)]; exact e.2⟩, fun z => ?_⟩
    have z := q_nle z
    have vr : vp_in (h_i h 216 x1.toNatClampNeg) 400 := dp_in (lo := 0) (hi := 399) ⟨r0, by show _ ≤ (399 : Int); omega⟩ (by decide) (by decide)
    have go : ∀ h2, Iv h2 → Mo x1.toNatClampNeg h0 h2 → h_i h2 208 x1.toNatClampNeg = h_i h0 208 x1.toNatClampNeg ∧ h_i h2 210 x1.toNatClampNeg = h_i h0 210 x1.toNatClampNeg → h_i h2 216 x1.toNatClampNeg = h_i h 216 x1.toNatClampNeg → AW (m_X12_drop (d + 1) 0 0) 0 0 0 [(0, .ref 1), (1, .int x1), (2, .int x2)] [] (h_im h2 216 x1.toNatClampNeg ((h_i h2 216 x1.toNatClampNeg) + 1)) (kV (fun h' => Iv h' ∧ Mo x1.toNatClampNeg h0 h' ∧ h_i h' 208 x1.toNatClampNeg = h_i h0 208 x1.toNatClampNeg ∧ h_i h' 210 x1.toNatClampNeg = h_i h0 210 x1.toNatClampNeg)) := by
      intro h2 I2 M2 e2 e6
      have ex : (h_i h2 216 x1.toNatClampNeg + 1).toInt = (h_i h 216 x1.toNatClampNeg).toInt + 1 := by rw [e6, tx_add (by rw [t1]; omega) (by rw [t1]; omega), t1]
      exact ih _ (i216 I2 _ ⟨by show (0 : Int) ≤ _; omega, by show _ ≤ (400 : Int); omega⟩) (M2.im (by decide) (fun _ => rfl)) ⟨by rw [im_ne (by decide)]; exact e2.1, by rw [im_ne (by decide)]; exact e2.2⟩ (by rw [im_at]; omega)
    refine ⟨v1, vr, fun _ => ⟨v1, v1, go h I M e rfl⟩, fun _ => ⟨v1, vr, fun _ => ⟨v1, v1, go h I M e rfl⟩, fun _ => ⟨v1, ?_⟩⟩⟩
    refine Cv.mono (c_miss d I x1.toNatClampNeg _ x2 ⟨r0, by show _ ≤ (399 : Int); omega⟩) (fun h2 q => ⟨q.1.1, v1, v1, go h2 q.1 (M.tr q.2.1) ⟨by rw [q.2.2.1.1]; exact e.1, by rw [q.2.2.2]; exact e.2⟩ q.2.2.1.2.2.2⟩)
theorem c_drop (d : Nat) {h : Hp_} (I : Iv h) (x1 x2 : Int32) (b1 : rin x1.toInt (0, 11)) : Cv (m_X12_drop (d + 1) 0 0) [.ref 1, .int x1, .int x2] h (fun h' => Iv h' ∧ Mo x1.toNatClampNeg h h' ∧ h_i h' 208 x1.toNatClampNeg = h_i h 208 x1.toNatClampNeg ∧ h_i h' 210 x1.toNatClampNeg = h_i h 210 x1.toNatClampNeg) := by
  refine Ct.of (fun _ _ _ => trivial) rfl (Nat.le_of_ble_eq_true rfl) ?_
  have r0 : 0 ≤ (h_i h 216 x1.toNatClampNeg).toInt := (rw_in I _).1
  exact dr_loop d h x1 x2 b1 400 h I (Mo.rf _ _) ⟨rfl, rfl⟩ (by omega)
theorem man_ix {h : Hp_} (I : Iv h) {x1 : Int32} (z : 0 ≤ x1 ∧ x1 ≤ (h_i h 1 7) - 1) : rin x1.toInt (0, 11) ∧ x1.toNatClampNeg < 12 ∧ (x1.toNatClampNeg : Int) < (h_i h 1 7).toInt := by
  have t0 : (0 : Int32).toInt = 0 := rfl
  have t1 : (1 : Int32).toInt = 1 := rfl
  have m0 : 0 ≤ (h_i h 1 7).toInt := (men_in I).1
  have m1 : (h_i h 1 7).toInt ≤ 12 := (men_in I).2
  have e7 : (h_i h 1 7 - 1).toInt = (h_i h 1 7).toInt - 1 := by rw [tx_sub (by rw [t1]; omega) (by rw [t1]; omega), t1]
  have z1 := q_le.mp z.1
  have z2 := q_le.mp z.2
  have n1 := n_nat (x := x1) (by omega)
  exact ⟨⟨by show (0 : Int) ≤ _; omega, by show _ ≤ (11 : Int); omega⟩, by omega, by omega⟩
theorem c_ill (d : Nat) {h : Hp_} (I : Iv h) (J : J2 h) (x1 x2 : Int32) : Ci (m_X12_ill (d + 2) 0 0) [.ref 1, .int x1, .int x2] h (fun _ h' => Iv h' ∧ J2 h' ∧ Sr h h') := by
  refine t_X12_ill d h I.1 x1 x2 _ ⟨fun _ => ⟨I, J, Sr.rf _⟩, fun z => ?_⟩
  obtain ⟨b1, _⟩ := man_ix I z
  have v1 := dp_in b1 (n := 12) (by decide) (by decide)
  have st : ∀ h2, Iv h2 → Mo x1.toNatClampNeg h h2 → Iv (h_im (h_im (h_im (h_im (h_im h2 208 x1.toNatClampNeg 4) 209 x1.toNatClampNeg (h_i h2 206 x1.toNatClampNeg)) 210 x1.toNatClampNeg (-1)) 211 x1.toNatClampNeg (-1)) 213 x1.toNatClampNeg (-1)) ∧ J2 (h_im (h_im (h_im (h_im (h_im h2 208 x1.toNatClampNeg 4) 209 x1.toNatClampNeg (h_i h2 206 x1.toNatClampNeg)) 210 x1.toNatClampNeg (-1)) 211 x1.toNatClampNeg (-1)) 213 x1.toNatClampNeg (-1)) ∧ Sr h (h_im (h_im (h_im (h_im (h_im h2 208 x1.toNatClampNeg 4) 209 x1.toNatClampNeg (h_i h2 206 x1.toNatClampNeg)) 210 x1.toNatClampNeg (-1)) 211 x1.toNatClampNeg (-1)) 213 x1.toNatClampNeg (-1)) := by
    intro h2 I2 M2
    have e8 : h_i (h_im (h_im (h_im (h_im (h_im h2 208 x1.toNatClampNeg 4) 209 x1.toNatClampNeg (h_i h2 206 x1.toNatClampNeg)) 210 x1.toNatClampNeg (-1)) 211 x1.toNatClampNeg (-1)) 213 x1.toNatClampNeg (-1)) 208 x1.toNatClampNeg = 4 := by rw [im_ne (by decide), im_ne (by decide), im_ne (by decide), im_ne (by decide), im_at]
    have M5 : Mo x1.toNatClampNeg h (h_im (h_im (h_im (h_im (h_im h2 208 x1.toNatClampNeg 4) 209 x1.toNatClampNeg (h_i h2 206 x1.toNatClampNeg)) 210 x1.toNatClampNeg (-1)) 211 x1.toNatClampNeg (-1)) 213 x1.toNatClampNeg (-1)) := ((((M2.im (by decide) (fun _ => rfl)).im (by decide) (fun y => absurd y (by decide))).im (by decide) (fun _ => rfl)).im (by decide) (fun y => absurd y (by decide))).im (by decide) (fun _ => rfl)
    exact ⟨i213 (i211 (i210 (i209 (i208 I2 _ _) _ (b15 (home_in I2 _))) _ m1_in) _ _) _ m1_st, J2_o M5 J (Jd.jm ⟨by rw [e8]; decide, fun y => by rw [e8] at y; exact absurd y (by decide)⟩), M5.sr⟩
  have fr : Cv (m_X12_free (d + 0) 0 0) [.ref 1, .int x1] h (fun h' => Wf h' ∧ (Iv h' ∧ J2 h' ∧ Sr h h')) := Cv.mono (c_free d I x1 b1) (fun h' q => ⟨q.1.1, q.1, J2_o q.2.1 J (Jd.jm ⟨by rw [q.2.2.1]; decide, fun _ => q.2.2.2⟩), q.2.1.sr⟩)
  have dp : Cv (m_X12_drop (d + 1) 0 0) [.ref 1, .int x1, .int 4] h (fun h16 => Wf h16 ∧ (vp_in x1 12 ∧ (vp_in x1 12 ∧ (vp_in x1 12 ∧ (vp_in x1 12 ∧ (vp_in x1 12 ∧ (vp_in x1 12 ∧ (Iv (h_im (h_im (h_im (h_im (h_im h16 208 x1.toNatClampNeg 4) 209 x1.toNatClampNeg (h_i h16 206 x1.toNatClampNeg)) 210 x1.toNatClampNeg (-1)) 211 x1.toNatClampNeg (-1)) 213 x1.toNatClampNeg (-1)) ∧ J2 (h_im (h_im (h_im (h_im (h_im h16 208 x1.toNatClampNeg 4) 209 x1.toNatClampNeg (h_i h16 206 x1.toNatClampNeg)) 210 x1.toNatClampNeg (-1)) 211 x1.toNatClampNeg (-1)) 213 x1.toNatClampNeg (-1)) ∧ Sr h (h_im (h_im (h_im (h_im (h_im h16 208 x1.toNatClampNeg 4) 209 x1.toNatClampNeg (h_i h16 206 x1.toNatClampNeg)) 210 x1.toNatClampNeg (-1)) 211 x1.toNatClampNeg (-1)) 213 x1.toNatClampNeg (-1)))))))))) := Cv.mono (c_drop d I x1 4 b1) (fun h' q => ⟨q.1.1, v1, v1, v1, v1, v1, v1, st h' q.1 q.2.1⟩)
  exact ⟨v1, fun _ => ⟨fun _ => ⟨fun _ => ⟨v1, fun _ => ⟨v1, v1, v1, v1, v1, v1, st h I (Mo.rf _ _)⟩, fun _ => dp⟩, fun _ => fr⟩, fun _ => ⟨I, J, Sr.rf _⟩⟩, fun _ => ⟨fun _ => ⟨fun _ => ⟨v1, fun _ => ⟨v1, v1, v1, v1, v1, v1, st h I (Mo.rf _ _)⟩, fun _ => dp⟩, fun _ => fr⟩, fun _ => ⟨I, J, Sr.rf _⟩⟩⟩
theorem i248b {h : Hp_} (I : Iv h) (k : Nat) {x : Int32} (b : rin x.toInt (0, 1)) : Iv (h_im h 248 k x) := I.im (by rw [tfa_tf (show tfa 248 = some (0, 1) by decide +kernel)]; exact b) (jw_jr (by decide) (by decide) _)
theorem i218 {h : Hp_} (I : Iv h) (k : Nat) {x : Int32} (b : rin x.toInt (0, 15)) : Iv (h_im h 218 k x) := I.im (by rw [tfa_tf (show tfa 218 = some (0, 15) by decide +kernel)]; exact b) (jw_jr (by decide) (by decide) _)
theorem c_draw (d : Nat) {h : Hp_} (I : Iv h) (J : J2 h) (x1 x2 x3 : Int32) : Ci (m_X12_draw (d + 5) 0 0) [.ref 1, .int x1, .int x2, .int x3] h (fun _ h' => Iv h' ∧ J2 h' ∧ Sr h h') := by
  refine t_X12_draw d h I.1 x1 x2 x3 _ ⟨fun _ => ⟨I, J, Sr.rf _⟩, fun z => ⟨fun _ => ⟨I, J, Sr.rf _⟩, fun y => ⟨fun _ => ⟨I, J, Sr.rf _⟩, fun _ => ?_⟩⟩⟩
  obtain ⟨b1, _⟩ := man_ix I z
  have v1 := dp_in b1 (n := 12) (by decide) (by decide)
  have b2 : rin x2.toInt (0, 15) := by
    have y1 := q_le.mp y.1
    have y2 := q_le.mp y.2
    exact ⟨y1, y2⟩
  have st : ∀ (h2 : Hp_) (x : Int32), Iv h2 → Mo x1.toNatClampNeg h h2 → rin x.toInt (0, 1) → Iv (h_im (h_im (h_im (h_im (h_im h2 213 x1.toNatClampNeg (-1)) 208 x1.toNatClampNeg 3) 218 x1.toNatClampNeg x2) 219 x1.toNatClampNeg x3) 248 x1.toNatClampNeg x) ∧ Mo x1.toNatClampNeg h (h_im (h_im (h_im (h_im (h_im h2 213 x1.toNatClampNeg (-1)) 208 x1.toNatClampNeg 3) 218 x1.toNatClampNeg x2) 219 x1.toNatClampNeg x3) 248 x1.toNatClampNeg x) ∧ h_i (h_im (h_im (h_im (h_im (h_im h2 213 x1.toNatClampNeg (-1)) 208 x1.toNatClampNeg 3) 218 x1.toNatClampNeg x2) 219 x1.toNatClampNeg x3) 248 x1.toNatClampNeg x) 208 x1.toNatClampNeg = 3 := by
    intro h2 x I2 M2 bx
    exact ⟨i248b (i2xx 219 (by decide +kernel) (by decide) (by decide) (i218 (i208 (i213 I2 _ m1_st) _ _) _ b2) _ _) _ bx, ((((M2.im (by decide) (fun _ => rfl)).im (by decide) (fun _ => rfl)).im (by decide) (fun y => absurd y (by decide))).im (by decide) (fun y => absurd y (by decide))).im (by decide) (fun y => absurd y (by decide)), by rw [im_ne (by decide), im_ne (by decide), im_ne (by decide), im_at]⟩
  have k0 : rin (vp_nar .boolean 0).toInt (0, 1) := ⟨by decide, by decide⟩
  have k1 : rin (vp_nar .boolean 1).toInt (0, 1) := ⟨by decide, by decide⟩
  have fin : ∀ (h2 : Hp_) (x : Int32), Iv h2 → Mo x1.toNatClampNeg h h2 → rin x.toInt (0, 1) → (Iv (h_im (h_im (h_im (h_im (h_im h2 213 x1.toNatClampNeg (-1)) 208 x1.toNatClampNeg 3) 218 x1.toNatClampNeg x2) 219 x1.toNatClampNeg x3) 248 x1.toNatClampNeg x) ∧ J2 (h_im (h_im (h_im (h_im (h_im h2 213 x1.toNatClampNeg (-1)) 208 x1.toNatClampNeg 3) 218 x1.toNatClampNeg x2) 219 x1.toNatClampNeg x3) 248 x1.toNatClampNeg x) ∧ Sr h (h_im (h_im (h_im (h_im (h_im h2 213 x1.toNatClampNeg (-1)) 208 x1.toNatClampNeg 3) 218 x1.toNatClampNeg x2) 219 x1.toNatClampNeg x3) 248 x1.toNatClampNeg x)) ∧ Cv (m_X12_goDrawn (d + 4) 0 0) [.ref 1, .int x1] (h_im (h_im (h_im (h_im (h_im h2 213 x1.toNatClampNeg (-1)) 208 x1.toNatClampNeg 3) 218 x1.toNatClampNeg x2) 219 x1.toNatClampNeg x3) 248 x1.toNatClampNeg x) (fun h' => Wf h' ∧ (Iv h' ∧ J2 h' ∧ Sr h h')) := by
    intro h2 x I2 M2 bx
    obtain ⟨I3, M3, e3⟩ := st h2 x I2 M2 bx
    exact ⟨⟨I3, J2_o M3 J (Jd.jm ⟨by rw [e3]; decide, fun y => by rw [e3] at y; exact absurd y (by decide)⟩), M3.sr⟩, Cv.mono (c_goDrawn d I3 x1 b1 (by rw [e3]; exact ⟨by decide, by decide⟩)) (fun h' q => ⟨q.1.1, q.1, J2_o (M3.tr q.2.1) J q.2.2.jm, (M3.tr q.2.1).sr⟩)⟩
  refine ⟨v1, Ci.mono (c_walkOf d I _ x2 b2) (fun r h2 q => ?_)⟩
  obtain ⟨I2, F2, _⟩ := q
  have M2 : Mo x1.toNatClampNeg h h2 := Mo.fr F2 (by decide +kernel)
  have S2 : So x1.toNatClampNeg h h2 := So.fr F2 (by decide +kernel)
  have J2' : J2 h2 := J2_o M2 J (by
    by_cases e : x1.toNatClampNeg < 12
    · exact Jm_s M2 S2 (fr_i F2 (a := 210) (by decide +kernel) _) (J _ e (man_ix I z).2.2)
    · exact absurd (man_ix I z).2.1 e)
  refine ⟨I2.1, fun _ => ⟨I2, J2', M2.sr⟩, fun _ => ⟨v1, fun _ => ⟨I2, J2', M2.sr⟩, fun _ => ⟨v1, fun _ => ⟨v1, fun _ => ⟨v1, v1, v1, v1, v1, fun _ => ⟨v1, v1, fun _ => (fin h2 _ I2 M2 k0).1, fun _ => (fin h2 _ I2 M2 k0).2⟩, fun _ => ⟨v1, v1, fun _ => (fin h2 _ I2 M2 k1).1, fun _ => (fin h2 _ I2 M2 k1).2⟩⟩, fun _ => ?_⟩, fun _ => ⟨I2, J2', M2.sr⟩⟩⟩⟩
  refine Cv.mono (c_drop d I2 x1 3 b1) (fun h3 q => ?_)
  have M3 := M2.tr q.2.1
  exact ⟨q.1.1, v1, v1, v1, v1, v1, fun _ => ⟨v1, v1, fun _ => (fin h3 _ q.1 M3 k0).1, fun _ => (fin h3 _ q.1 M3 k0).2⟩, fun _ => ⟨v1, v1, fun _ => (fin h3 _ q.1 M3 k1).1, fun _ => (fin h3 _ q.1 M3 k1).2⟩⟩
end
section
/-! constable of the reference; what every other call leaves of the men -/
def okm (m x1 x2 x3 : Int32) : Prop := (1 ≤ x1 ∧ x1 ≤ 4) ∧ (0 ≤ x2 ∧ x2 ≤ 40) ∧ (0 ≤ x3 ∧ x3 ≤ 15) ∧ ¬ m = 12
def ocm (m x1 x2 x3 r m' : Int32) : Prop := (okm m x1 x2 x3 ∧ r = m ∧ m' = m + 1) ∨ (¬ okm m x1 x2 x3 ∧ r = -1 ∧ m' = m)
def Cw (ok : Prop) (m x1 : Int32) (h h' : Hp_) : Prop := (ok → h_i h' 204 m.toNatClampNeg = x1) ∧ ∀ k, (k ≠ m.toNatClampNeg ∨ ¬ ok) → h_i h' 204 k = h_i h 204 k
theorem tx_back (x : Int32) : x + 1 - 1 = x := Int32.add_sub_cancel x 1
theorem c_conM (d : Nat) {h : Hp_} (I : Iv h) (J : J2 h) (x1 x2 x3 : Int32) : Ci (m_X12_constable (d + 2) 0 0) [.ref 1, .int x1, .int x2, .int x3] h (fun r h' => Iv h' ∧ J2 h' ∧ Sn h h' ∧ ocm (h_i h 1 7) x1 x2 x3 r (h_i h' 1 7) ∧ Cw (okm (h_i h 1 7) x1 x2 x3) (h_i h 1 7) x1 h h') := by
  have t0 : (0 : Int32).toInt = 0 := rfl
  have t1 : (1 : Int32).toInt = 1 := rfl
  have t12 : (12 : Int32).toInt = 12 := rfl
  have m0 : 0 ≤ (h_i h 1 7).toInt := (men_in I).1
  have m1 : (h_i h 1 7).toInt ≤ 12 := (men_in I).2
  refine t_X12_constable d h I.1 x1 x2 x3 _ ⟨fun n => ⟨I, J, Fr.rf _ _, Or.inr ⟨fun o => n o.1, rfl, rfl⟩, fun o => absurd o.1 n, fun _ _ => rfl⟩, fun a1 => ⟨fun n => ⟨I, J, Fr.rf _ _, Or.inr ⟨fun o => n o.2.1, rfl, rfl⟩, fun o => absurd o.2.1 n, fun _ _ => rfl⟩, fun a2 => ⟨fun n => ⟨I, J, Fr.rf _ _, Or.inr ⟨fun o => n o.2.2.1, rfl, rfl⟩, fun o => absurd o.2.2.1 n, fun _ _ => rfl⟩, fun y => ⟨fun z => ?_, fun n => ⟨I, J, Fr.rf _ _, Or.inr ⟨fun o => o.2.2.2 n, rfl, rfl⟩, fun o => absurd n o.2.2.2, fun _ _ => rfl⟩⟩⟩⟩⟩
  have ok : okm (h_i h 1 7) x1 x2 x3 := ⟨a1, a2, y, z⟩
  have y1 := q_le.mp y.1
  have y2 := q_le.mp y.2
  have b3 : rin x3.toInt (0, 15) := ⟨y1, y2⟩
  have lt : (h_i h 1 7).toInt ≤ 11 := by
    rcases Int.lt_or_le (h_i h 1 7).toInt 12 with u | u
    · omega
    · exact absurd (Int32.toInt_inj.mp (by rw [t12]; omega)) z
  have v : vp_in (h_i h 1 7) 12 := dp_in (lo := 0) (hi := 11) ⟨m0, lt⟩ (by decide) (by decide)
  have e7 : (h_i h 1 7 + 1).toInt = (h_i h 1 7).toInt + 1 := tx_add (by rw [t1]; omega) (by rw [t1]; omega)
  refine ⟨v, v, v, v, v, v, v, v, v, v, v, v, ?_⟩
  have nr := I.2.1 1 0
  rw [show tf 1 0 = (0, 20000) by decide +kernel] at nr
  have nc := n_nat m0
  generalize ecc : (h_i h 1 7).toNatClampNeg = c at nc ⊢
  have z4 : rin (0 : Int32).toInt (0, 400) := ⟨by decide, by decide⟩
  have IA := i2xx 205 (by decide +kernel) (by decide) (by decide) (i2xx 204 (by decide +kernel) (by decide) (by decide) I c x1) c x2
  have FB : Fr wsN h (h_im (h_im (h_im (h_im h 204 c x1) 205 c x2) 206 c x3) 207 c (h_i h 1 0)) := ((((Fr.rf _ _).im (inw_row (by decide +kernel) _)).im (inw_row (by decide +kernel) _)).im (inw_row (by decide +kernel) _)).im (inw_row (by decide +kernel) _)
  have JB : J2 (h_im (h_im (h_im (h_im h 204 c x1) 205 c x2) 206 c x3) 207 c (h_i h 1 0)) := J2_s (Js.im (by decide) (fun z => absurd z.1 (by decide))) (J2_s (Js.im (by decide) (fun z => absurd z.1 (by decide))) (J2_s (Js.im (by decide) (fun z => absurd z.1 (by decide))) (J2_s (Js.im (by decide) (fun z => absurd z.1 (by decide))) J)))
  have IB : Iv (h_im (h_im (h_im (h_im h 204 c x1) 205 c x2) 206 c x3) 207 c (h_i h 1 0)) := (IA.im (by rw [tfa_tf (show tfa 206 = some (0, 15) by decide +kernel)]; exact b3) (jw_jr (by decide) (by decide) _)).im (by rw [tfa_tf (show tfa 207 = some (0, 20000) by decide +kernel)]; exact nr) (jw_jr (by decide) (by decide) _)
  have MB : Mo c (h_im (h_im (h_im (h_im h 204 c x1) 205 c x2) 206 c x3) 207 c (h_i h 1 0)) (h_im (h_im (h_im (h_im h 204 c x1) 205 c x2) 206 c x3) 207 c (h_i h 1 0)) := Mo.rf _ _
  have IC := i213 (i211 (i210 (i209 (i208 IB c 0) c (b15 b3)) c m1_in) c (-1)) c m1_st
  have MC := ((((MB.im (b := 208) (k := c) (x := 0) (by decide) (fun _ => rfl)).im (b := 209) (k := c) (x := x3) (by decide) (fun y => absurd y (by decide))).im (b := 210) (k := c) (x := -1) (by decide) (fun _ => rfl)).im (b := 211) (k := c) (x := -1) (by decide) (fun y => absurd y (by decide))).im (b := 213) (k := c) (x := -1) (by decide) (fun _ => rfl)
  have ID : Iv (h_im (h_im (h_im (h_im (h_im (h_im (h_im (h_im (h_im (h_im (h_im (h_im h 204 c x1) 205 c x2) 206 c x3) 207 c (h_i h 1 0)) 208 c 0) 209 c x3) 210 c (-1)) 211 c (-1)) 213 c (-1)) 215 c 0) 216 c 0) 217 c 0) := (i216 (i215 IC c z4) c z4).im (by rw [tfa_tf (show tfa 217 = some (0, 400) by decide +kernel)]; exact z4) (jw_jr (by decide) (by decide) _)
  have MD := ((MC.im (b := 215) (k := c) (x := 0) (by decide) (fun y => absurd y (by decide))).im (b := 216) (k := c) (x := 0) (by decide) (fun _ => rfl)).im (b := 217) (k := c) (x := 0) (by decide) (fun y => absurd y (by decide))
  have e8 : h_i (h_im (h_im (h_im (h_im (h_im (h_im (h_im (h_im (h_im (h_im (h_im (h_im h 204 c x1) 205 c x2) 206 c x3) 207 c (h_i h 1 0)) 208 c 0) 209 c x3) 210 c (-1)) 211 c (-1)) 213 c (-1)) 215 c 0) 216 c 0) 217 c 0) 208 c = 0 := by rw [im_ne (by decide), im_ne (by decide), im_ne (by decide), im_ne (by decide), im_ne (by decide), im_ne (by decide), im_ne (by decide), im_at]
  have e10 : h_i (h_im (h_im (h_im (h_im (h_im (h_im (h_im (h_im (h_im (h_im (h_im (h_im h 204 c x1) 205 c x2) 206 c x3) 207 c (h_i h 1 0)) 208 c 0) 209 c x3) 210 c (-1)) 211 c (-1)) 213 c (-1)) 215 c 0) 216 c 0) 217 c 0) 210 c = -1 := by rw [im_ne (by decide), im_ne (by decide), im_ne (by decide), im_ne (by decide), im_ne (by decide), im_at]
  have JC := Jd.jm ⟨by rw [e8]; decide, fun _ => e10⟩
  have JD := J2_o MD JB JC
  have eM := (MD.2.2.2.1 7 (Or.inr (Or.inl rfl))).trans (show h_i (h_im (h_im (h_im (h_im h 204 c x1) 205 c x2) 206 c x3) 207 c (h_i h 1 0)) 1 7 = h_i h 1 7 by rw [im_ne (by decide), im_ne (by decide), im_ne (by decide), im_ne (by decide)])
  refine ⟨ID.im (by rw [show tf 1 7 = (0, 12) by decide +kernel]; exact ⟨by show (0 : Int) ≤ _; omega, by show _ ≤ (12 : Int); omega⟩) (by decide), fun k hk hm => Jm_z (Jz.im (by decide) (fun y => absurd y.2 (by decide))) ?_, Fr.im (FB.tr MD.sr.sn) (by decide +kernel), Or.inl ⟨ok, tx_back _, im_at⟩, fun _ => ?_, fun k hk => ?_⟩
  · rw [im_at, e7] at hm
    by_cases ek : k = c
    · rw [ek]; exact JC
    · exact JD k hk (by rw [eM]; omega)
  · rw [ecc, im_ne (by decide), im_ne (by decide), im_ne (by decide), im_ne (by decide), im_ne (by decide), im_ne (by decide), im_ne (by decide), im_ne (by decide), im_ne (by decide), im_ne (by decide), im_ne (by decide), im_ne (by decide), im_at]
  · have nk : k ≠ c := fun e => hk.elim (fun y => y (by rw [ecc]; exact e)) (fun y => y ok)
    rw [im_ne (by decide), im_ne (by decide), im_ne (by decide), im_ne (by decide), im_ne (by decide), im_ne (by decide), im_ne (by decide), im_ne (by decide), im_ne (by decide), im_ne (by decide), im_ne (by decide), im_ne (by decide), h_i_im, if_neg (fun e => nk e.2)]
/-- a call that writes nothing that the men's account looks at -/
def jso (ws : List Nat) : Bool := off ws 208 && off ws 210 && off ws 212 && off ws 213 && off ws 216 && off ws 227 && off ws 228 && !inw ws 1 42 && !inw ws 1 7
theorem Js.fr {ws : List Nat} {h h' : Hp_} (f : Fr ws h h') (o : jso ws = true) : Js h h' := by
  unfold jso at o
  simp only [Bool.and_eq_true] at o
  obtain ⟨⟨⟨⟨⟨⟨⟨⟨o1, o2⟩, o3⟩, o4⟩, o5⟩, o6⟩, o7⟩, o8⟩, o9⟩ := o
  rw [Bool.not_eq_true'] at o8 o9
  refine ⟨⟨fun r hr k => ?_, fun k => fr_i f o6 k, fun k => fr_i f o7 k, (f.2 1 42 o8).1⟩, (f.2 1 7 o9).1⟩
  unfold mrow at hr
  simp only [Bool.or_eq_true] at hr
  rcases hr with (((z | z) | z) | z) | z <;> have z := Nat.eq_of_beq_eq_true z <;> subst z
  · exact fr_i f o1 k
  · exact fr_i f o2 k
  · exact fr_i f o3 k
  · exact fr_i f o4 k
  · exact fr_i f o5 k
theorem Mf.js {W : List Nat} {h h' : Hp_} (m : Mf W h h') : Js h h' := by
  refine ⟨⟨fun r hr k => ?_, fun k => m.2.1 227 (by decide) (by decide) k, fun k => m.2.1 228 (by decide) (by decide) k, m.1 42⟩, m.1 7⟩
  unfold mrow at hr
  simp only [Bool.or_eq_true] at hr
  rcases hr with (((z | z) | z) | z) | z <;> have z := Nat.eq_of_beq_eq_true z <;> subst z <;> exact m.2.1 _ (by decide) (by decide) k
end
section
theorem t_X12_look (d : Nat) (h : Hp_) (w : Wf h)  (K : Int32 → Hp_ → Prop) (k : ((h_i h 1 32) ≤ (h_i h 1 33) → ((h_i h 1 32) ≤ (h_i h 1 33) → K (-1) h) ∧ (¬ (h_i h 1 32) ≤ (h_i h 1 33) → vp_in (h_i h 1 33) 160 ∧ (K (h_i h 225 ((h_i h 1 33) : Int32).toNatClampNeg) h))) ∧ (¬ (h_i h 1 32) ≤ (h_i h 1 33) → vp_in (h_i h 1 33) 160 ∧ ((¬ (h_i h 225 ((h_i h 1 33) : Int32).toNatClampNeg) = 32 → ((h_i h 1 32) ≤ (h_i h 1 33) → K (-1) h) ∧ (¬ (h_i h 1 32) ≤ (h_i h 1 33) → vp_in (h_i h 1 33) 160 ∧ (K (h_i h 225 ((h_i h 1 33) : Int32).toNatClampNeg) h))) ∧ ((h_i h 225 ((h_i h 1 33) : Int32).toNatClampNeg) = 32 → AW (m_X12_look (d + 0) 0 0) 0 0 0 [(0, .ref 1)] [] (h_im h 1 33 ((h_i h 1 33) + 1)) (kI K))))) : Ci (m_X12_look (d + 0) 0 0) [.ref 1] h K := by
  refine Ct.of (fun _ _ _ => trivial) rfl (Nat.le_of_ble_eq_true rfl) ?_
  show AW (m_X12_look (d + 0) 0 0) 0 0 0 [(0, .ref 1)] [] h (kI K)
  refine aw_aload_n (i := 0) rfl d_X12_look_0 0 rfl ?_
  refine aw_geti (k0 := 33) kc_12 (ws_1 w) (Nat.le_of_ble_eq_true rfl) tw_1775 d_X12_look_1 rfl ?_
  refine aw_aload_n (i := 0) rfl d_X12_look_4 0 rfl ?_
  refine aw_geti (k0 := 32) kc_12 (ws_1 w) (Nat.le_of_ble_eq_true rfl) tw_1774 d_X12_look_5 rfl ?_
  refine aw_icmp_ge (tgt := 38) d_X12_look_8 rfl (fun c1 => ?_) (fun c1 => ?_)
  · have k := k.1 c1
    refine aw_aload_n (i := 0) rfl d_X12_look_38 0 rfl ?_
    refine aw_geti (k0 := 33) kc_12 (ws_1 w) (Nat.le_of_ble_eq_true rfl) tw_1775 d_X12_look_39 rfl ?_
    refine aw_aload_n (i := 0) rfl d_X12_look_42 0 rfl ?_
    refine aw_geti (k0 := 32) kc_12 (ws_1 w) (Nat.le_of_ble_eq_true rfl) tw_1774 d_X12_look_43 rfl ?_
    refine aw_icmp_ge (tgt := 61) d_X12_look_46 rfl (fun c2 => ?_) (fun c2 => ?_)
    · have k := k.1 c2
      refine aw_iconst (v := (-1)) d_X12_look_61 ic_m1 ?_
      exact aw_iret rfl d_X12_look_62 ⟨Nat.le_refl _, Nat.le_refl _⟩ ⟨_, rfl, k⟩
    · have k := k.2 c2
      refine aw_aload_n (i := 0) rfl d_X12_look_49 0 rfl ?_
      refine aw_getr (k0 := 30) kc_12 (ws_1 w) (Nat.le_of_ble_eq_true rfl) tw_1772 d_X12_look_50 rfl (wr_1_30 w) ?_
      refine aw_aload_n (i := 0) rfl d_X12_look_53 0 rfl ?_
      refine aw_geti (k0 := 33) kc_12 (ws_1 w) (Nat.le_of_ble_eq_true rfl) tw_1775 d_X12_look_54 rfl ?_
      obtain ⟨b3, k⟩ := k
      refine aw_iald (ws_225 w) b3 d_X12_look_57 ?_
      refine aw_goto (tgt := 62) d_X12_look_58 rfl ?_
      exact aw_iret rfl d_X12_look_62 ⟨Nat.le_refl _, Nat.le_refl _⟩ ⟨_, rfl, k⟩
  · have k := k.2 c1
    refine aw_aload_n (i := 0) rfl d_X12_look_11 0 rfl ?_
    refine aw_getr (k0 := 30) kc_12 (ws_1 w) (Nat.le_of_ble_eq_true rfl) tw_1772 d_X12_look_12 rfl (wr_1_30 w) ?_
    refine aw_aload_n (i := 0) rfl d_X12_look_15 0 rfl ?_
    refine aw_geti (k0 := 33) kc_12 (ws_1 w) (Nat.le_of_ble_eq_true rfl) tw_1775 d_X12_look_16 rfl ?_
    obtain ⟨b4, k⟩ := k
    refine aw_iald (ws_225 w) b4 d_X12_look_19 ?_
    refine aw_bipush (v := 32) d_X12_look_20 ib_32 ?_
    refine aw_icmp_ne (tgt := 38) d_X12_look_22 rfl (fun c5 => ?_) (fun c5 => ?_)
    · have k := k.1 c5
      refine aw_aload_n (i := 0) rfl d_X12_look_38 0 rfl ?_
      refine aw_geti (k0 := 33) kc_12 (ws_1 w) (Nat.le_of_ble_eq_true rfl) tw_1775 d_X12_look_39 rfl ?_
      refine aw_aload_n (i := 0) rfl d_X12_look_42 0 rfl ?_
      refine aw_geti (k0 := 32) kc_12 (ws_1 w) (Nat.le_of_ble_eq_true rfl) tw_1774 d_X12_look_43 rfl ?_
      refine aw_icmp_ge (tgt := 61) d_X12_look_46 rfl (fun c6 => ?_) (fun c6 => ?_)
      · have k := k.1 c6
        refine aw_iconst (v := (-1)) d_X12_look_61 ic_m1 ?_
        exact aw_iret rfl d_X12_look_62 ⟨Nat.le_refl _, Nat.le_refl _⟩ ⟨_, rfl, k⟩
      · have k := k.2 c6
        refine aw_aload_n (i := 0) rfl d_X12_look_49 0 rfl ?_
        refine aw_getr (k0 := 30) kc_12 (ws_1 w) (Nat.le_of_ble_eq_true rfl) tw_1772 d_X12_look_50 rfl (wr_1_30 w) ?_
        refine aw_aload_n (i := 0) rfl d_X12_look_53 0 rfl ?_
        refine aw_geti (k0 := 33) kc_12 (ws_1 w) (Nat.le_of_ble_eq_true rfl) tw_1775 d_X12_look_54 rfl ?_
        obtain ⟨b7, k⟩ := k
        refine aw_iald (ws_225 w) b7 d_X12_look_57 ?_
        refine aw_goto (tgt := 62) d_X12_look_58 rfl ?_
        exact aw_iret rfl d_X12_look_62 ⟨Nat.le_refl _, Nat.le_refl _⟩ ⟨_, rfl, k⟩
    · have k := k.2 c5
      refine aw_aload_n (i := 0) rfl d_X12_look_25 0 rfl ?_
      refine aw_dup d_X12_look_26 rfl ?_
      refine aw_geti (k0 := 33) kc_12 (ws_1 w) (Nat.le_of_ble_eq_true rfl) tw_1775 d_X12_look_27 rfl ?_
      refine aw_iconst (v := 1) d_X12_look_30 ic_1 ?_
      refine aw_iadd d_X12_look_31 ?_
      refine aw_puti (k0 := 33) kc_12 (ws_1 w) (Nat.le_of_ble_eq_true rfl) tw_1775 d_X12_look_32 rfl rfl nf_i ?_
      refine aw_goto (tgt := 0) d_X12_look_35 rfl ?_
      exact k
theorem t_X12_look_0 (d : Nat) (h : Hp_) (w : Wf h)  (K : Int32 → Hp_ → Prop) (k : ((h_i h 1 32) ≤ (h_i h 1 33) → ((h_i h 1 32) ≤ (h_i h 1 33) → K (-1) h) ∧ (¬ (h_i h 1 32) ≤ (h_i h 1 33) → vp_in (h_i h 1 33) 160 ∧ (K (h_i h 225 ((h_i h 1 33) : Int32).toNatClampNeg) h))) ∧ (¬ (h_i h 1 32) ≤ (h_i h 1 33) → vp_in (h_i h 1 33) 160 ∧ ((¬ (h_i h 225 ((h_i h 1 33) : Int32).toNatClampNeg) = 32 → ((h_i h 1 32) ≤ (h_i h 1 33) → K (-1) h) ∧ (¬ (h_i h 1 32) ≤ (h_i h 1 33) → vp_in (h_i h 1 33) 160 ∧ (K (h_i h 225 ((h_i h 1 33) : Int32).toNatClampNeg) h))) ∧ ((h_i h 225 ((h_i h 1 33) : Int32).toNatClampNeg) = 32 → AW (m_X12_look (d + 0) 0 0) 0 0 0 [(0, .ref 1)] [] (h_im h 1 33 ((h_i h 1 33) + 1)) (kI K))))) : AW (m_X12_look (d + 0) 0 0) 0 0 0 [(0, .ref 1)] [] h (kI K) := by
  refine aw_aload_n (i := 0) rfl d_X12_look_0 0 rfl ?_
  refine aw_geti (k0 := 33) kc_12 (ws_1 w) (Nat.le_of_ble_eq_true rfl) tw_1775 d_X12_look_1 rfl ?_
  refine aw_aload_n (i := 0) rfl d_X12_look_4 0 rfl ?_
  refine aw_geti (k0 := 32) kc_12 (ws_1 w) (Nat.le_of_ble_eq_true rfl) tw_1774 d_X12_look_5 rfl ?_
  refine aw_icmp_ge (tgt := 38) d_X12_look_8 rfl (fun c8 => ?_) (fun c8 => ?_)
  · have k := k.1 c8
    refine aw_aload_n (i := 0) rfl d_X12_look_38 0 rfl ?_
    refine aw_geti (k0 := 33) kc_12 (ws_1 w) (Nat.le_of_ble_eq_true rfl) tw_1775 d_X12_look_39 rfl ?_
    refine aw_aload_n (i := 0) rfl d_X12_look_42 0 rfl ?_
    refine aw_geti (k0 := 32) kc_12 (ws_1 w) (Nat.le_of_ble_eq_true rfl) tw_1774 d_X12_look_43 rfl ?_
    refine aw_icmp_ge (tgt := 61) d_X12_look_46 rfl (fun c9 => ?_) (fun c9 => ?_)
    · have k := k.1 c9
      refine aw_iconst (v := (-1)) d_X12_look_61 ic_m1 ?_
      exact aw_iret rfl d_X12_look_62 ⟨Nat.le_refl _, Nat.le_refl _⟩ ⟨_, rfl, k⟩
    · have k := k.2 c9
      refine aw_aload_n (i := 0) rfl d_X12_look_49 0 rfl ?_
      refine aw_getr (k0 := 30) kc_12 (ws_1 w) (Nat.le_of_ble_eq_true rfl) tw_1772 d_X12_look_50 rfl (wr_1_30 w) ?_
      refine aw_aload_n (i := 0) rfl d_X12_look_53 0 rfl ?_
      refine aw_geti (k0 := 33) kc_12 (ws_1 w) (Nat.le_of_ble_eq_true rfl) tw_1775 d_X12_look_54 rfl ?_
      obtain ⟨b10, k⟩ := k
      refine aw_iald (ws_225 w) b10 d_X12_look_57 ?_
      refine aw_goto (tgt := 62) d_X12_look_58 rfl ?_
      exact aw_iret rfl d_X12_look_62 ⟨Nat.le_refl _, Nat.le_refl _⟩ ⟨_, rfl, k⟩
  · have k := k.2 c8
    refine aw_aload_n (i := 0) rfl d_X12_look_11 0 rfl ?_
    refine aw_getr (k0 := 30) kc_12 (ws_1 w) (Nat.le_of_ble_eq_true rfl) tw_1772 d_X12_look_12 rfl (wr_1_30 w) ?_
    refine aw_aload_n (i := 0) rfl d_X12_look_15 0 rfl ?_
    refine aw_geti (k0 := 33) kc_12 (ws_1 w) (Nat.le_of_ble_eq_true rfl) tw_1775 d_X12_look_16 rfl ?_
    obtain ⟨b11, k⟩ := k
    refine aw_iald (ws_225 w) b11 d_X12_look_19 ?_
    refine aw_bipush (v := 32) d_X12_look_20 ib_32 ?_
    refine aw_icmp_ne (tgt := 38) d_X12_look_22 rfl (fun c12 => ?_) (fun c12 => ?_)
    · have k := k.1 c12
      refine aw_aload_n (i := 0) rfl d_X12_look_38 0 rfl ?_
      refine aw_geti (k0 := 33) kc_12 (ws_1 w) (Nat.le_of_ble_eq_true rfl) tw_1775 d_X12_look_39 rfl ?_
      refine aw_aload_n (i := 0) rfl d_X12_look_42 0 rfl ?_
      refine aw_geti (k0 := 32) kc_12 (ws_1 w) (Nat.le_of_ble_eq_true rfl) tw_1774 d_X12_look_43 rfl ?_
      refine aw_icmp_ge (tgt := 61) d_X12_look_46 rfl (fun c13 => ?_) (fun c13 => ?_)
      · have k := k.1 c13
        refine aw_iconst (v := (-1)) d_X12_look_61 ic_m1 ?_
        exact aw_iret rfl d_X12_look_62 ⟨Nat.le_refl _, Nat.le_refl _⟩ ⟨_, rfl, k⟩
      · have k := k.2 c13
        refine aw_aload_n (i := 0) rfl d_X12_look_49 0 rfl ?_
        refine aw_getr (k0 := 30) kc_12 (ws_1 w) (Nat.le_of_ble_eq_true rfl) tw_1772 d_X12_look_50 rfl (wr_1_30 w) ?_
        refine aw_aload_n (i := 0) rfl d_X12_look_53 0 rfl ?_
        refine aw_geti (k0 := 33) kc_12 (ws_1 w) (Nat.le_of_ble_eq_true rfl) tw_1775 d_X12_look_54 rfl ?_
        obtain ⟨b14, k⟩ := k
        refine aw_iald (ws_225 w) b14 d_X12_look_57 ?_
        refine aw_goto (tgt := 62) d_X12_look_58 rfl ?_
        exact aw_iret rfl d_X12_look_62 ⟨Nat.le_refl _, Nat.le_refl _⟩ ⟨_, rfl, k⟩
    · have k := k.2 c12
      refine aw_aload_n (i := 0) rfl d_X12_look_25 0 rfl ?_
      refine aw_dup d_X12_look_26 rfl ?_
      refine aw_geti (k0 := 33) kc_12 (ws_1 w) (Nat.le_of_ble_eq_true rfl) tw_1775 d_X12_look_27 rfl ?_
      refine aw_iconst (v := 1) d_X12_look_30 ic_1 ?_
      refine aw_iadd d_X12_look_31 ?_
      refine aw_puti (k0 := 33) kc_12 (ws_1 w) (Nat.le_of_ble_eq_true rfl) tw_1775 d_X12_look_32 rfl rfl nf_i ?_
      refine aw_goto (tgt := 0) d_X12_look_35 rfl ?_
      exact k
theorem t_X12_bad (d : Nat) (h : Hp_) (w : Wf h)  (K : Hp_ → Prop) (k : (¬ (h_i h 1 34) = (-1) → K (h_im h 1 34 (h_i h 1 34))) ∧ ((h_i h 1 34) = (-1) → K (h_im h 1 34 (h_i h 1 33)))) : Cv (m_X12_bad (d + 0) 0 0) [.ref 1] h K := by
  refine Ct.of (fun _ _ _ => trivial) rfl (Nat.le_of_ble_eq_true rfl) ?_
  show AW (m_X12_bad (d + 0) 0 0) 0 0 0 [(0, .ref 1)] [] h (kV K)
  refine aw_aload_n (i := 0) rfl d_X12_bad_0 0 rfl ?_
  refine aw_aload_n (i := 0) rfl d_X12_bad_1 0 rfl ?_
  refine aw_geti (k0 := 34) kc_12 (ws_1 w) (Nat.le_of_ble_eq_true rfl) tw_1776 d_X12_bad_2 rfl ?_
  refine aw_iconst (v := (-1)) d_X12_bad_5 ic_m1 ?_
  refine aw_icmp_ne (tgt := 16) d_X12_bad_6 rfl (fun c1 => ?_) (fun c1 => ?_)
  · have k := k.1 c1
    refine aw_aload_n (i := 0) rfl d_X12_bad_16 0 rfl ?_
    refine aw_geti (k0 := 34) kc_12 (ws_1 w) (Nat.le_of_ble_eq_true rfl) tw_1776 d_X12_bad_17 rfl ?_
    refine aw_puti (k0 := 34) kc_12 (ws_1 w) (Nat.le_of_ble_eq_true rfl) tw_1776 d_X12_bad_20 rfl rfl nf_i ?_
    exact aw_vret rfl d_X12_bad_23 ⟨Nat.le_refl _, Nat.le_refl _⟩ ⟨rfl, k⟩
  · have k := k.2 c1
    refine aw_aload_n (i := 0) rfl d_X12_bad_9 0 rfl ?_
    refine aw_geti (k0 := 33) kc_12 (ws_1 w) (Nat.le_of_ble_eq_true rfl) tw_1775 d_X12_bad_10 rfl ?_
    refine aw_goto (tgt := 20) d_X12_bad_13 rfl ?_
    refine aw_puti (k0 := 34) kc_12 (ws_1 w) (Nat.le_of_ble_eq_true rfl) tw_1776 d_X12_bad_20 rfl rfl nf_i ?_
    exact aw_vret rfl d_X12_bad_23 ⟨Nat.le_refl _, Nat.le_refl _⟩ ⟨rfl, k⟩
theorem t_X12_say (d : Nat) (h : Hp_) (w : Wf h) (x1 : Int32) (K : Hp_ → Prop) (k : vp_in (h_i h 1 36) 560 ∧ (K (h_im (h_im h 226 ((h_i h 1 36) : Int32).toNatClampNeg x1) 1 36 ((h_i h 1 36) + 1)))) : Cv (m_X12_say (d + 0) 0 0) [.ref 1, .int x1] h K := by
  refine Ct.of (fun _ _ _ => trivial) rfl (Nat.le_of_ble_eq_true rfl) ?_
  show AW (m_X12_say (d + 0) 0 0) 0 0 0 [(0, .ref 1), (1, .int x1)] [] h (kV K)
  refine aw_aload_n (i := 0) rfl d_X12_say_0 0 rfl ?_
  refine aw_getr (k0 := 31) kc_12 (ws_1 w) (Nat.le_of_ble_eq_true rfl) tw_1773 d_X12_say_1 rfl (wr_1_31 w) ?_
  refine aw_aload_n (i := 0) rfl d_X12_say_4 0 rfl ?_
  refine aw_geti (k0 := 36) kc_12 (ws_1 w) (Nat.le_of_ble_eq_true rfl) tw_1778 d_X12_say_5 rfl ?_
  refine aw_iload_n (i := 1) rfl d_X12_say_8 1 rfl ?_
  obtain ⟨b1, k⟩ := k
  refine aw_iast (ws_226 w) b1 d_X12_say_9 ?_
  refine aw_aload_n (i := 0) rfl d_X12_say_10 0 rfl ?_
  refine aw_dup d_X12_say_11 rfl ?_
  refine aw_geti (k0 := 36) kc_12 (ws_1 w) (Nat.le_of_ble_eq_true rfl) tw_1778 d_X12_say_12 rfl ?_
  refine aw_vi (v2 := (h_i h 1 36)) (rfl) ?_
  refine aw_iconst (v := 1) d_X12_say_15 ic_1 ?_
  refine aw_iadd d_X12_say_16 ?_
  refine aw_puti (k0 := 36) kc_12 (ws_1 w) (Nat.le_of_ble_eq_true rfl) tw_1778 d_X12_say_17 rfl rfl nf_i ?_
  exact aw_vret rfl d_X12_say_20 ⟨Nat.le_refl _, Nat.le_refl _⟩ ⟨rfl, k⟩
theorem t_X12_number (d : Nat) (h : Hp_) (w : Wf h)  (K : Int32 → Hp_ → Prop) (k : Ci (m_X12_look (d + 0) 0 0) [.ref 1] h (fun r3 h1 => Wf h1 ∧ (Ci (m_X12_isDigit (d + 0) 0 0) [.int r3] h1 (fun r6 h4 => Wf h4 ∧ ((¬ r6 = 0 → AW (m_X12_number (d + 1) 0 0) 0 0 20 [(0, .ref 1), (1, .int 0), (2, .int 0)] [] h4 (kI K)) ∧ (r6 = 0 → Cv (m_X12_bad (d + 0) 0 0) [.ref 1] h4 (fun h8 => Wf h8 ∧ (K (-1) h8)))))))) : Ci (m_X12_number (d + 1) 0 0) [.ref 1] h K := by
  refine Ct.of (fun _ _ _ => trivial) rfl (Nat.le_of_ble_eq_true rfl) ?_
  show AW (m_X12_number (d + 1) 0 0) 0 0 0 [(0, .ref 1)] [] h (kI K)
  refine aw_aload_n (i := 0) rfl d_X12_number_0 0 rfl ?_
  refine aw_Vi 1 [] [] d_X12_number_1 (cV_X12_look (d + 0) 0 0) kc_12 (ws_1 w) tw_2206 rfl (rr0 (Nat.le_of_ble_eq_true rfl) (Nat.le_of_ble_eq_true rfl)) (Nat.le_of_ble_eq_true rfl) xs0 k (fun r3 h1 kk => ?_)
  obtain ⟨w2, k⟩ := kk
  refine aw_Si [.int r3] [] d_X12_number_4 (cS_X12_isDigit (d + 0) 0 0) tw_2222 rfl (rr0 (Nat.le_of_ble_eq_true rfl) (Nat.le_of_ble_eq_true rfl)) (Nat.le_of_ble_eq_true rfl) xs0 k (fun r6 h4 kk => ?_)
  obtain ⟨w5, k⟩ := kk
  refine aw_if_ne (tgt := 16) d_X12_number_7 rfl (fun c7 => ?_) (fun c7 => ?_)
  · have k := k.1 c7
    refine aw_iconst (v := 0) d_X12_number_16 ic_0 ?_
    refine aw_istore_n (i := 1) rfl [(0, .ref 1), (1, .int 0)] d_X12_number_17 (Nat.le_of_ble_eq_true rfl) rfl rfl ?_
    refine aw_iconst (v := 0) d_X12_number_18 ic_0 ?_
    refine aw_istore_n (i := 2) rfl [(0, .ref 1), (1, .int 0), (2, .int 0)] d_X12_number_19 (Nat.le_of_ble_eq_true rfl) rfl rfl ?_
    exact k
  · have k := k.2 c7
    refine aw_aload_n (i := 0) rfl d_X12_number_10 0 rfl ?_
    refine aw_Vv 1 [] [] d_X12_number_11 (cV_X12_bad (d + 0) 0 0) kc_12 (ws_1 w5) tw_2225 rfl (rr0 (Nat.le_of_ble_eq_true rfl) (Nat.le_of_ble_eq_true rfl)) (Nat.le_of_ble_eq_true rfl) xs0 k (fun h8 kk => ?_)
    obtain ⟨w9, k⟩ := kk
    refine aw_iconst (v := (-1)) d_X12_number_14 ic_m1 ?_
    exact aw_iret rfl d_X12_number_15 ⟨Nat.le_refl _, Nat.le_refl _⟩ ⟨_, rfl, k⟩
theorem t_X12_number_20 (d : Nat) (h : Hp_) (w : Wf h) (x1 : Int32) (x2 : Int32) (K : Int32 → Hp_ → Prop) (k : ((h_i h 1 32) ≤ (h_i h 1 33) → K x1 h) ∧ (¬ (h_i h 1 32) ≤ (h_i h 1 33) → vp_in (h_i h 1 33) 160 ∧ (Ci (m_X12_isDigit (d + 0) 0 0) [.int (h_i h 225 ((h_i h 1 33) : Int32).toNatClampNeg)] h (fun r15 h13 => Wf h13 ∧ ((r15 = 0 → K x1 h13) ∧ (¬ r15 = 0 → (¬ x2 = 4 → vp_in (h_i h13 1 33) 160 ∧ (AW (m_X12_number (d + 1) 0 0) 0 0 20 [(0, .ref 1), (1, .int (((10 * x1) + (h_i h13 225 ((h_i h13 1 33) : Int32).toNatClampNeg)) - 48)), (2, .int (x2 + 1))] [] (h_im h13 1 33 ((h_i h13 1 33) + 1)) (kI K))) ∧ (x2 = 4 → Cv (m_X12_bad (d + 0) 0 0) [.ref 1] h13 (fun h19 => Wf h19 ∧ (K (-1) h19))))))))) : AW (m_X12_number (d + 1) 0 0) 0 0 20 [(0, .ref 1), (1, .int x1), (2, .int x2)] [] h (kI K) := by
  refine aw_aload_n (i := 0) rfl d_X12_number_20 0 rfl ?_
  refine aw_geti (k0 := 33) kc_12 (ws_1 w) (Nat.le_of_ble_eq_true rfl) tw_1775 d_X12_number_21 rfl ?_
  refine aw_aload_n (i := 0) rfl d_X12_number_24 0 rfl ?_
  refine aw_geti (k0 := 32) kc_12 (ws_1 w) (Nat.le_of_ble_eq_true rfl) tw_1774 d_X12_number_25 rfl ?_
  refine aw_icmp_ge (tgt := 91) d_X12_number_28 rfl (fun c11 => ?_) (fun c11 => ?_)
  · have k := k.1 c11
    refine aw_iload_n (i := 1) rfl d_X12_number_91 1 rfl ?_
    exact aw_iret rfl d_X12_number_92 ⟨Nat.le_refl _, Nat.le_refl _⟩ ⟨_, rfl, k⟩
  · have k := k.2 c11
    refine aw_aload_n (i := 0) rfl d_X12_number_31 0 rfl ?_
    refine aw_getr (k0 := 30) kc_12 (ws_1 w) (Nat.le_of_ble_eq_true rfl) tw_1772 d_X12_number_32 rfl (wr_1_30 w) ?_
    refine aw_aload_n (i := 0) rfl d_X12_number_35 0 rfl ?_
    refine aw_geti (k0 := 33) kc_12 (ws_1 w) (Nat.le_of_ble_eq_true rfl) tw_1775 d_X12_number_36 rfl ?_
    obtain ⟨b12, k⟩ := k
    refine aw_iald (ws_225 w) b12 d_X12_number_39 ?_
    refine aw_Si [.int (h_i h 225 ((h_i h 1 33) : Int32).toNatClampNeg)] [] d_X12_number_40 (cS_X12_isDigit (d + 0) 0 0) tw_2222 rfl (rr0 (Nat.le_of_ble_eq_true rfl) (Nat.le_of_ble_eq_true rfl)) (Nat.le_of_ble_eq_true rfl) xs0 k (fun r15 h13 kk => ?_)
    obtain ⟨w14, k⟩ := kk
    refine aw_if_eq (tgt := 91) d_X12_number_43 rfl (fun c16 => ?_) (fun c16 => ?_)
    · have k := k.1 c16
      refine aw_iload_n (i := 1) rfl d_X12_number_91 1 rfl ?_
      exact aw_iret rfl d_X12_number_92 ⟨Nat.le_refl _, Nat.le_refl _⟩ ⟨_, rfl, k⟩
    · have k := k.2 c16
      refine aw_iload_n (i := 2) rfl d_X12_number_46 2 rfl ?_
      refine aw_iconst (v := 4) d_X12_number_47 ic_4 ?_
      refine aw_icmp_ne (tgt := 57) d_X12_number_48 rfl (fun c17 => ?_) (fun c17 => ?_)
      · have k := k.1 c17
        refine aw_bipush (v := 10) d_X12_number_57 ib_10 ?_
        refine aw_iload_n (i := 1) rfl d_X12_number_59 1 rfl ?_
        refine aw_imul d_X12_number_60 ?_
        refine aw_aload_n (i := 0) rfl d_X12_number_61 0 rfl ?_
        refine aw_getr (k0 := 30) kc_12 (ws_1 w14) (Nat.le_of_ble_eq_true rfl) tw_1772 d_X12_number_62 rfl (wr_1_30 w14) ?_
        refine aw_aload_n (i := 0) rfl d_X12_number_65 0 rfl ?_
        refine aw_geti (k0 := 33) kc_12 (ws_1 w14) (Nat.le_of_ble_eq_true rfl) tw_1775 d_X12_number_66 rfl ?_
        obtain ⟨b18, k⟩ := k
        refine aw_iald (ws_225 w14) b18 d_X12_number_69 ?_
        refine aw_iadd d_X12_number_70 ?_
        refine aw_bipush (v := 48) d_X12_number_71 ib_48 ?_
        refine aw_isub d_X12_number_73 ?_
        refine aw_istore_n (i := 1) rfl [(0, .ref 1), (1, .int (((10 * x1) + (h_i h13 225 ((h_i h13 1 33) : Int32).toNatClampNeg)) - 48)), (2, .int x2)] d_X12_number_74 (Nat.le_of_ble_eq_true rfl) rfl rfl ?_
        refine aw_iinc (v := (x2 + 1)) [(0, .ref 1), (1, .int (((10 * x1) + (h_i h13 225 ((h_i h13 1 33) : Int32).toNatClampNeg)) - 48)), (2, .int (x2 + 1))] d_X12_number_75 2 rfl rfl (Nat.le_of_ble_eq_true rfl) rfl rfl ?_
        refine aw_aload_n (i := 0) rfl d_X12_number_78 0 rfl ?_
        refine aw_dup d_X12_number_79 rfl ?_
        refine aw_geti (k0 := 33) kc_12 (ws_1 w14) (Nat.le_of_ble_eq_true rfl) tw_1775 d_X12_number_80 rfl ?_
        refine aw_iconst (v := 1) d_X12_number_83 ic_1 ?_
        refine aw_iadd d_X12_number_84 ?_
        refine aw_puti (k0 := 33) kc_12 (ws_1 w14) (Nat.le_of_ble_eq_true rfl) tw_1775 d_X12_number_85 rfl rfl nf_i ?_
        refine aw_goto (tgt := 20) d_X12_number_88 rfl ?_
        exact k
      · have k := k.2 c17
        refine aw_aload_n (i := 0) rfl d_X12_number_51 0 rfl ?_
        refine aw_Vv 1 [] [] d_X12_number_52 (cV_X12_bad (d + 0) 0 0) kc_12 (ws_1 w14) tw_2225 rfl (rr0 (Nat.le_of_ble_eq_true rfl) (Nat.le_of_ble_eq_true rfl)) (Nat.le_of_ble_eq_true rfl) xs0 k (fun h19 kk => ?_)
        obtain ⟨w20, k⟩ := kk
        refine aw_iconst (v := (-1)) d_X12_number_55 ic_m1 ?_
        exact aw_iret rfl d_X12_number_56 ⟨Nat.le_refl _, Nat.le_refl _⟩ ⟨_, rfl, k⟩
theorem t_X12_within (d : Nat) (h : Hp_) (w : Wf h) (x1 : Int32) (x2 : Int32) (K : Int32 → Hp_ → Prop) (k : Ci (m_X12_number (d + 1) 0 0) [.ref 1] h (fun r3 h1 => Wf h1 ∧ ((¬ (h_i h1 1 34) = (-1) → K r3 h1) ∧ ((h_i h1 1 34) = (-1) → ((x1 ≤ r3 ∧ r3 ≤ x2) → K r3 h1) ∧ (¬ (x1 ≤ r3 ∧ r3 ≤ x2) → K r3 (h_im h1 1 34 ((h_i h1 1 33) - 1))))))) : Ci (m_X12_within (d + 2) 0 0) [.ref 1, .int x1, .int x2] h K := by
  refine Ct.of (fun _ _ _ => trivial) rfl (Nat.le_of_ble_eq_true rfl) ?_
  show AW (m_X12_within (d + 2) 0 0) 0 0 0 [(0, .ref 1), (1, .int x1), (2, .int x2)] [] h (kI K)
  refine aw_aload_n (i := 0) rfl d_X12_within_0 0 rfl ?_
  refine aw_Vi 1 [] [] d_X12_within_1 (cV_X12_number (d + 1) 0 0) kc_12 (ws_1 w) tw_2218 rfl (rr0 (Nat.le_of_ble_eq_true rfl) (Nat.le_of_ble_eq_true rfl)) (Nat.le_of_ble_eq_true rfl) xs0 k (fun r3 h1 kk => ?_)
  obtain ⟨w2, k⟩ := kk
  refine aw_istore_n (i := 3) rfl [(0, .ref 1), (1, .int x1), (2, .int x2), (3, .int r3)] d_X12_within_4 (Nat.le_of_ble_eq_true rfl) rfl rfl ?_
  refine aw_aload_n (i := 0) rfl d_X12_within_5 0 rfl ?_
  refine aw_geti (k0 := 34) kc_12 (ws_1 w2) (Nat.le_of_ble_eq_true rfl) tw_1776 d_X12_within_6 rfl ?_
  refine aw_iconst (v := (-1)) d_X12_within_9 ic_m1 ?_
  refine aw_icmp_ne (tgt := 32) d_X12_within_10 rfl (fun c4 => ?_) (fun c4 => ?_)
  · have k := k.1 c4
    refine aw_iload_n (i := 3) rfl d_X12_within_32 3 rfl ?_
    exact aw_iret rfl d_X12_within_33 ⟨Nat.le_refl _, Nat.le_refl _⟩ ⟨_, rfl, k⟩
  · have k := k.2 c4
    refine aw_iload_n (i := 3) rfl d_X12_within_13 3 rfl ?_
    refine aw_iload_n (i := 1) rfl d_X12_within_14 1 rfl ?_
    refine aw_iload_n (i := 2) rfl d_X12_within_15 2 rfl ?_
    refine aw_Si [.int r3, .int x1, .int x2] [] d_X12_within_16 (cS_X12_in (d + 0) 0 0) tw_2143 rfl (rr0 (Nat.le_of_ble_eq_true rfl) (Nat.le_of_ble_eq_true rfl)) (Nat.le_of_ble_eq_true rfl) xs0 (s_X12_in _ _ r3 x1 x2) (fun _ _ kk => ?_)
    obtain ⟨e5, e6⟩ := kk
    rw [e5, e6]
    refine aw_ifb_ne (tgt := 32) d_X12_within_19 rfl (fun c7 => ?_) (fun c7 => ?_)
    · have k := k.1 c7
      refine aw_iload_n (i := 3) rfl d_X12_within_32 3 rfl ?_
      exact aw_iret rfl d_X12_within_33 ⟨Nat.le_refl _, Nat.le_refl _⟩ ⟨_, rfl, k⟩
    · have k := k.2 c7
      refine aw_aload_n (i := 0) rfl d_X12_within_22 0 rfl ?_
      refine aw_aload_n (i := 0) rfl d_X12_within_23 0 rfl ?_
      refine aw_geti (k0 := 33) kc_12 (ws_1 w2) (Nat.le_of_ble_eq_true rfl) tw_1775 d_X12_within_24 rfl ?_
      refine aw_iconst (v := 1) d_X12_within_27 ic_1 ?_
      refine aw_isub d_X12_within_28 ?_
      refine aw_puti (k0 := 34) kc_12 (ws_1 w2) (Nat.le_of_ble_eq_true rfl) tw_1776 d_X12_within_29 rfl rfl nf_i ?_
      refine aw_iload_n (i := 3) rfl d_X12_within_32 3 rfl ?_
      exact aw_iret rfl d_X12_within_33 ⟨Nat.le_refl _, Nat.le_refl _⟩ ⟨_, rfl, k⟩
theorem t_X12_isDigit (d : Nat) (h : Hp_) (x0 : Int32) (K : Int32 → Hp_ → Prop) (k : (x0 < 48 → K 0 h) ∧ (¬ x0 < 48 → (57 < x0 → K 0 h) ∧ (¬ 57 < x0 → K 1 h))) : Ci (m_X12_isDigit (d + 0) 0 0) [.int x0] h K := by
  refine Ct.of (fun _ _ _ => trivial) rfl (Nat.le_of_ble_eq_true rfl) ?_
  show AW (m_X12_isDigit (d + 0) 0 0) 0 0 0 [(0, .int x0)] [] h (kI K)
  refine aw_iload_n (i := 0) rfl d_X12_isDigit_0 0 rfl ?_
  refine aw_bipush (v := 48) d_X12_isDigit_1 ib_48 ?_
  refine aw_icmp_lt (tgt := 16) d_X12_isDigit_3 rfl (fun c1 => ?_) (fun c1 => ?_)
  · have k := k.1 c1
    refine aw_iconst (v := 0) d_X12_isDigit_16 ic_0 ?_
    exact aw_zret rfl rfl d_X12_isDigit_17 ⟨Nat.le_refl _, Nat.le_refl _⟩ ⟨_, rfl, k⟩
  · have k := k.2 c1
    refine aw_iload_n (i := 0) rfl d_X12_isDigit_6 0 rfl ?_
    refine aw_bipush (v := 57) d_X12_isDigit_7 ib_57 ?_
    refine aw_icmp_gt (tgt := 16) d_X12_isDigit_9 rfl (fun c2 => ?_) (fun c2 => ?_)
    · have k := k.1 c2
      refine aw_iconst (v := 0) d_X12_isDigit_16 ic_0 ?_
      exact aw_zret rfl rfl d_X12_isDigit_17 ⟨Nat.le_refl _, Nat.le_refl _⟩ ⟨_, rfl, k⟩
    · have k := k.2 c2
      refine aw_iconst (v := 1) d_X12_isDigit_12 ic_1 ?_
      refine aw_goto (tgt := 17) d_X12_isDigit_13 rfl ?_
      exact aw_zret rfl rfl d_X12_isDigit_17 ⟨Nat.le_refl _, Nat.le_refl _⟩ ⟨_, rfl, k⟩
theorem t_X12_opens (d : Nat) (h : Hp_) (w : Wf h)  (K : Int32 → Hp_ → Prop) (k : (¬ (h_i h 1 35) = 6 → K 1 (h_im (h_im h 1 35 ((h_i h 1 35) + 1)) 1 33 ((h_i h 1 33) + 1))) ∧ ((h_i h 1 35) = 6 → Cv (m_X12_bad (d + 0) 0 0) [.ref 1] h (fun h2 => Wf h2 ∧ (K 0 h2)))) : Ci (m_X12_opens (d + 1) 0 0) [.ref 1] h K := by
  refine Ct.of (fun _ _ _ => trivial) rfl (Nat.le_of_ble_eq_true rfl) ?_
  show AW (m_X12_opens (d + 1) 0 0) 0 0 0 [(0, .ref 1)] [] h (kI K)
  refine aw_aload_n (i := 0) rfl d_X12_opens_0 0 rfl ?_
  refine aw_geti (k0 := 35) kc_12 (ws_1 w) (Nat.le_of_ble_eq_true rfl) tw_1777 d_X12_opens_1 rfl ?_
  refine aw_bipush (v := 6) d_X12_opens_4 ib_6 ?_
  refine aw_icmp_ne (tgt := 15) d_X12_opens_6 rfl (fun c1 => ?_) (fun c1 => ?_)
  · have k := k.1 c1
    refine aw_aload_n (i := 0) rfl d_X12_opens_15 0 rfl ?_
    refine aw_dup d_X12_opens_16 rfl ?_
    refine aw_geti (k0 := 35) kc_12 (ws_1 w) (Nat.le_of_ble_eq_true rfl) tw_1777 d_X12_opens_17 rfl ?_
    refine aw_iconst (v := 1) d_X12_opens_20 ic_1 ?_
    refine aw_iadd d_X12_opens_21 ?_
    refine aw_puti (k0 := 35) kc_12 (ws_1 w) (Nat.le_of_ble_eq_true rfl) tw_1777 d_X12_opens_22 rfl rfl nf_i ?_
    refine aw_aload_n (i := 0) rfl d_X12_opens_25 0 rfl ?_
    refine aw_dup d_X12_opens_26 rfl ?_
    refine aw_geti (k0 := 33) kc_12 (ws_1 w) (Nat.le_of_ble_eq_true rfl) tw_1775 d_X12_opens_27 rfl ?_
    refine aw_vi (v2 := (h_i h 1 33)) (rfl) ?_
    refine aw_iconst (v := 1) d_X12_opens_30 ic_1 ?_
    refine aw_iadd d_X12_opens_31 ?_
    refine aw_puti (k0 := 33) kc_12 (ws_1 w) (Nat.le_of_ble_eq_true rfl) tw_1775 d_X12_opens_32 rfl rfl nf_i ?_
    refine aw_iconst (v := 1) d_X12_opens_35 ic_1 ?_
    exact aw_zret rfl rfl d_X12_opens_36 ⟨Nat.le_refl _, Nat.le_refl _⟩ ⟨_, rfl, k⟩
  · have k := k.2 c1
    refine aw_aload_n (i := 0) rfl d_X12_opens_9 0 rfl ?_
    refine aw_Vv 1 [] [] d_X12_opens_10 (cV_X12_bad (d + 0) 0 0) kc_12 (ws_1 w) tw_2225 rfl (rr0 (Nat.le_of_ble_eq_true rfl) (Nat.le_of_ble_eq_true rfl)) (Nat.le_of_ble_eq_true rfl) xs0 k (fun h2 kk => ?_)
    obtain ⟨w3, k⟩ := kk
    refine aw_iconst (v := 0) d_X12_opens_13 ic_0 ?_
    exact aw_zret rfl rfl d_X12_opens_14 ⟨Nat.le_refl _, Nat.le_refl _⟩ ⟨_, rfl, k⟩
theorem t_X12_closes (d : Nat) (h : Hp_) (w : Wf h) (x1 : Int32) (K : Hp_ → Prop) (k : (¬ (h_i h 1 34) = (-1) → K (h_im (h_im h 1 33 ((h_i h 1 33) + 1)) 1 35 ((h_i h 1 35) - 1))) ∧ ((h_i h 1 34) = (-1) → Ci (m_X12_look (d + 0) 0 0) [.ref 1] h (fun r4 h2 => Wf h2 ∧ ((r4 = x1 → K (h_im (h_im h2 1 33 ((h_i h2 1 33) + 1)) 1 35 ((h_i h2 1 35) - 1))) ∧ (¬ r4 = x1 → Cv (m_X12_bad (d + 0) 0 0) [.ref 1] h2 (fun h6 => Wf h6 ∧ (K (h_im (h_im h6 1 33 ((h_i h6 1 33) + 1)) 1 35 ((h_i h6 1 35) - 1))))))))) : Cv (m_X12_closes (d + 1) 0 0) [.ref 1, .int x1] h K := by
  refine Ct.of (fun _ _ _ => trivial) rfl (Nat.le_of_ble_eq_true rfl) ?_
  show AW (m_X12_closes (d + 1) 0 0) 0 0 0 [(0, .ref 1), (1, .int x1)] [] h (kV K)
  refine aw_aload_n (i := 0) rfl d_X12_closes_0 0 rfl ?_
  refine aw_geti (k0 := 34) kc_12 (ws_1 w) (Nat.le_of_ble_eq_true rfl) tw_1776 d_X12_closes_1 rfl ?_
  refine aw_iconst (v := (-1)) d_X12_closes_4 ic_m1 ?_
  refine aw_icmp_ne (tgt := 20) d_X12_closes_5 rfl (fun c1 => ?_) (fun c1 => ?_)
  · have k := k.1 c1
    refine aw_aload_n (i := 0) rfl d_X12_closes_20 0 rfl ?_
    refine aw_dup d_X12_closes_21 rfl ?_
    refine aw_geti (k0 := 33) kc_12 (ws_1 w) (Nat.le_of_ble_eq_true rfl) tw_1775 d_X12_closes_22 rfl ?_
    refine aw_iconst (v := 1) d_X12_closes_25 ic_1 ?_
    refine aw_iadd d_X12_closes_26 ?_
    refine aw_puti (k0 := 33) kc_12 (ws_1 w) (Nat.le_of_ble_eq_true rfl) tw_1775 d_X12_closes_27 rfl rfl nf_i ?_
    refine aw_aload_n (i := 0) rfl d_X12_closes_30 0 rfl ?_
    refine aw_dup d_X12_closes_31 rfl ?_
    refine aw_geti (k0 := 35) kc_12 (ws_1 w) (Nat.le_of_ble_eq_true rfl) tw_1777 d_X12_closes_32 rfl ?_
    refine aw_vi (v2 := (h_i h 1 35)) (rfl) ?_
    refine aw_iconst (v := 1) d_X12_closes_35 ic_1 ?_
    refine aw_isub d_X12_closes_36 ?_
    refine aw_puti (k0 := 35) kc_12 (ws_1 w) (Nat.le_of_ble_eq_true rfl) tw_1777 d_X12_closes_37 rfl rfl nf_i ?_
    exact aw_vret rfl d_X12_closes_40 ⟨Nat.le_refl _, Nat.le_refl _⟩ ⟨rfl, k⟩
  · have k := k.2 c1
    refine aw_aload_n (i := 0) rfl d_X12_closes_8 0 rfl ?_
    refine aw_Vi 1 [] [] d_X12_closes_9 (cV_X12_look (d + 0) 0 0) kc_12 (ws_1 w) tw_2206 rfl (rr0 (Nat.le_of_ble_eq_true rfl) (Nat.le_of_ble_eq_true rfl)) (Nat.le_of_ble_eq_true rfl) xs0 k (fun r4 h2 kk => ?_)
    obtain ⟨w3, k⟩ := kk
    refine aw_iload_n (i := 1) rfl d_X12_closes_12 1 rfl ?_
    refine aw_icmp_eq (tgt := 20) d_X12_closes_13 rfl (fun c5 => ?_) (fun c5 => ?_)
    · have k := k.1 c5
      refine aw_aload_n (i := 0) rfl d_X12_closes_20 0 rfl ?_
      refine aw_dup d_X12_closes_21 rfl ?_
      refine aw_geti (k0 := 33) kc_12 (ws_1 w3) (Nat.le_of_ble_eq_true rfl) tw_1775 d_X12_closes_22 rfl ?_
      refine aw_iconst (v := 1) d_X12_closes_25 ic_1 ?_
      refine aw_iadd d_X12_closes_26 ?_
      refine aw_puti (k0 := 33) kc_12 (ws_1 w3) (Nat.le_of_ble_eq_true rfl) tw_1775 d_X12_closes_27 rfl rfl nf_i ?_
      refine aw_aload_n (i := 0) rfl d_X12_closes_30 0 rfl ?_
      refine aw_dup d_X12_closes_31 rfl ?_
      refine aw_geti (k0 := 35) kc_12 (ws_1 w3) (Nat.le_of_ble_eq_true rfl) tw_1777 d_X12_closes_32 rfl ?_
      refine aw_vi (v2 := (h_i h2 1 35)) (rfl) ?_
      refine aw_iconst (v := 1) d_X12_closes_35 ic_1 ?_
      refine aw_isub d_X12_closes_36 ?_
      refine aw_puti (k0 := 35) kc_12 (ws_1 w3) (Nat.le_of_ble_eq_true rfl) tw_1777 d_X12_closes_37 rfl rfl nf_i ?_
      exact aw_vret rfl d_X12_closes_40 ⟨Nat.le_refl _, Nat.le_refl _⟩ ⟨rfl, k⟩
    · have k := k.2 c5
      refine aw_aload_n (i := 0) rfl d_X12_closes_16 0 rfl ?_
      refine aw_Vv 1 [] [] d_X12_closes_17 (cV_X12_bad (d + 0) 0 0) kc_12 (ws_1 w3) tw_2225 rfl (rr0 (Nat.le_of_ble_eq_true rfl) (Nat.le_of_ble_eq_true rfl)) (Nat.le_of_ble_eq_true rfl) xs0 k (fun h6 kk => ?_)
      obtain ⟨w7, k⟩ := kk
      refine aw_aload_n (i := 0) rfl d_X12_closes_20 0 rfl ?_
      refine aw_dup d_X12_closes_21 rfl ?_
      refine aw_geti (k0 := 33) kc_12 (ws_1 w7) (Nat.le_of_ble_eq_true rfl) tw_1775 d_X12_closes_22 rfl ?_
      refine aw_iconst (v := 1) d_X12_closes_25 ic_1 ?_
      refine aw_iadd d_X12_closes_26 ?_
      refine aw_puti (k0 := 33) kc_12 (ws_1 w7) (Nat.le_of_ble_eq_true rfl) tw_1775 d_X12_closes_27 rfl rfl nf_i ?_
      refine aw_aload_n (i := 0) rfl d_X12_closes_30 0 rfl ?_
      refine aw_dup d_X12_closes_31 rfl ?_
      refine aw_geti (k0 := 35) kc_12 (ws_1 w7) (Nat.le_of_ble_eq_true rfl) tw_1777 d_X12_closes_32 rfl ?_
      refine aw_vi (v2 := (h_i h6 1 35)) (rfl) ?_
      refine aw_iconst (v := 1) d_X12_closes_35 ic_1 ?_
      refine aw_isub d_X12_closes_36 ?_
      refine aw_puti (k0 := 35) kc_12 (ws_1 w7) (Nat.le_of_ble_eq_true rfl) tw_1777 d_X12_closes_37 rfl rfl nf_i ?_
      exact aw_vret rfl d_X12_closes_40 ⟨Nat.le_refl _, Nat.le_refl _⟩ ⟨rfl, k⟩
theorem t_X12_isLetter (d : Nat) (h : Hp_) (x0 : Int32) (x1 : Int32) (K : Int32 → Hp_ → Prop) (k : (x0 = 97 → (¬ x1 = 2 → K 0 h) ∧ (x1 = 2 → K 1 h)) ∧ ((x0 = 99 → K 1 h) ∧ ((x0 = 100 → (¬ x1 = 1 → K 0 h) ∧ (x1 = 1 → K 1 h)) ∧ ((x0 = 101 → (¬ x1 = 1 → K 0 h) ∧ (x1 = 1 → K 1 h)) ∧ ((x0 = 104 → (¬ x1 = 1 → K 0 h) ∧ (x1 = 1 → K 1 h)) ∧ ((x0 = 107 → (¬ x1 = 1 → K 0 h) ∧ (x1 = 1 → K 1 h)) ∧ ((x0 = 109 → (¬ x1 = 2 → K 0 h) ∧ (x1 = 2 → K 1 h)) ∧ ((x0 = 110 → (¬ x1 = 1 → K 0 h) ∧ (x1 = 1 → K 1 h)) ∧ ((x0 = 112 → (¬ x1 = 1 → K 0 h) ∧ (x1 = 1 → K 1 h)) ∧ ((x0 = 116 → K 1 h) ∧ ((x0 = 119 → (¬ x1 = 1 → K 0 h) ∧ (x1 = 1 → K 1 h)) ∧ ((x0 = 120 → (¬ x1 = 2 → K 0 h) ∧ (x1 = 2 → K 1 h)) ∧ ((x0 = 121 → (¬ x1 = 2 → K 0 h) ∧ (x1 = 2 → K 1 h)) ∧ ((¬ x0 = 97 ∧ ¬ x0 = 99 ∧ ¬ x0 = 100 ∧ ¬ x0 = 101 ∧ ¬ x0 = 104 ∧ ¬ x0 = 107 ∧ ¬ x0 = 109 ∧ ¬ x0 = 110 ∧ ¬ x0 = 112 ∧ ¬ x0 = 116 ∧ ¬ x0 = 119 ∧ ¬ x0 = 120 ∧ ¬ x0 = 121 → K 0 h))))))))))))))) : Ci (m_X12_isLetter (d + 0) 0 0) [.int x0, .int x1] h K := by
  refine Ct.of (fun _ _ _ => trivial) rfl (Nat.le_of_ble_eq_true rfl) ?_
  show AW (m_X12_isLetter (d + 0) 0 0) 0 0 0 [(0, .int x0), (1, .int x1)] [] h (kI K)
  refine aw_iload_n (i := 0) rfl d_X12_isLetter_0 0 rfl ?_
  by_cases e1 : x0 = 97
  · refine aw_tableIn (off := 128) (tgt := 129) d_X12_isLetter_1 (by rw [e1]; decide) (by rw [e1]; decide) (by rw [e1]; decide) rfl ?_
    have k := k.1 e1
    refine aw_iload_n (i := 1) rfl d_X12_isLetter_129 1 rfl ?_
    refine aw_iconst (v := 2) d_X12_isLetter_130 ic_2 ?_
    refine aw_icmp_ne (tgt := 138) d_X12_isLetter_131 rfl (fun c2 => ?_) (fun c2 => ?_)
    · have k := k.1 c2
      refine aw_iconst (v := 0) d_X12_isLetter_138 ic_0 ?_
      exact aw_zret rfl rfl d_X12_isLetter_139 ⟨Nat.le_refl _, Nat.le_refl _⟩ ⟨_, rfl, k⟩
    · have k := k.2 c2
      refine aw_iconst (v := 1) d_X12_isLetter_134 ic_1 ?_
      refine aw_goto (tgt := 139) d_X12_isLetter_135 rfl ?_
      exact aw_zret rfl rfl d_X12_isLetter_139 ⟨Nat.le_refl _, Nat.le_refl _⟩ ⟨_, rfl, k⟩
  · have k := k.2
    by_cases e3 : x0 = 99
    · refine aw_tableIn (off := 115) (tgt := 116) d_X12_isLetter_1 (by rw [e3]; decide) (by rw [e3]; decide) (by rw [e3]; decide) rfl ?_
      have k := k.1 e3
      refine aw_iconst (v := 1) d_X12_isLetter_116 ic_1 ?_
      exact aw_zret rfl rfl d_X12_isLetter_117 ⟨Nat.le_refl _, Nat.le_refl _⟩ ⟨_, rfl, k⟩
    · have k := k.2
      by_cases e4 : x0 = 100
      · refine aw_tableIn (off := 117) (tgt := 118) d_X12_isLetter_1 (by rw [e4]; decide) (by rw [e4]; decide) (by rw [e4]; decide) rfl ?_
        have k := k.1 e4
        refine aw_iload_n (i := 1) rfl d_X12_isLetter_118 1 rfl ?_
        refine aw_iconst (v := 1) d_X12_isLetter_119 ic_1 ?_
        refine aw_icmp_ne (tgt := 127) d_X12_isLetter_120 rfl (fun c5 => ?_) (fun c5 => ?_)
        · have k := k.1 c5
          refine aw_iconst (v := 0) d_X12_isLetter_127 ic_0 ?_
          exact aw_zret rfl rfl d_X12_isLetter_128 ⟨Nat.le_refl _, Nat.le_refl _⟩ ⟨_, rfl, k⟩
        · have k := k.2 c5
          refine aw_iconst (v := 1) d_X12_isLetter_123 ic_1 ?_
          refine aw_goto (tgt := 128) d_X12_isLetter_124 rfl ?_
          exact aw_zret rfl rfl d_X12_isLetter_128 ⟨Nat.le_refl _, Nat.le_refl _⟩ ⟨_, rfl, k⟩
      · have k := k.2
        by_cases e6 : x0 = 101
        · refine aw_tableIn (off := 117) (tgt := 118) d_X12_isLetter_1 (by rw [e6]; decide) (by rw [e6]; decide) (by rw [e6]; decide) rfl ?_
          have k := k.1 e6
          refine aw_iload_n (i := 1) rfl d_X12_isLetter_118 1 rfl ?_
          refine aw_iconst (v := 1) d_X12_isLetter_119 ic_1 ?_
          refine aw_icmp_ne (tgt := 127) d_X12_isLetter_120 rfl (fun c7 => ?_) (fun c7 => ?_)
          · have k := k.1 c7
            refine aw_iconst (v := 0) d_X12_isLetter_127 ic_0 ?_
            exact aw_zret rfl rfl d_X12_isLetter_128 ⟨Nat.le_refl _, Nat.le_refl _⟩ ⟨_, rfl, k⟩
          · have k := k.2 c7
            refine aw_iconst (v := 1) d_X12_isLetter_123 ic_1 ?_
            refine aw_goto (tgt := 128) d_X12_isLetter_124 rfl ?_
            exact aw_zret rfl rfl d_X12_isLetter_128 ⟨Nat.le_refl _, Nat.le_refl _⟩ ⟨_, rfl, k⟩
        · have k := k.2
          by_cases e8 : x0 = 104
          · refine aw_tableIn (off := 117) (tgt := 118) d_X12_isLetter_1 (by rw [e8]; decide) (by rw [e8]; decide) (by rw [e8]; decide) rfl ?_
            have k := k.1 e8
            refine aw_iload_n (i := 1) rfl d_X12_isLetter_118 1 rfl ?_
            refine aw_iconst (v := 1) d_X12_isLetter_119 ic_1 ?_
            refine aw_icmp_ne (tgt := 127) d_X12_isLetter_120 rfl (fun c9 => ?_) (fun c9 => ?_)
            · have k := k.1 c9
              refine aw_iconst (v := 0) d_X12_isLetter_127 ic_0 ?_
              exact aw_zret rfl rfl d_X12_isLetter_128 ⟨Nat.le_refl _, Nat.le_refl _⟩ ⟨_, rfl, k⟩
            · have k := k.2 c9
              refine aw_iconst (v := 1) d_X12_isLetter_123 ic_1 ?_
              refine aw_goto (tgt := 128) d_X12_isLetter_124 rfl ?_
              exact aw_zret rfl rfl d_X12_isLetter_128 ⟨Nat.le_refl _, Nat.le_refl _⟩ ⟨_, rfl, k⟩
          · have k := k.2
            by_cases e10 : x0 = 107
            · refine aw_tableIn (off := 117) (tgt := 118) d_X12_isLetter_1 (by rw [e10]; decide) (by rw [e10]; decide) (by rw [e10]; decide) rfl ?_
              have k := k.1 e10
              refine aw_iload_n (i := 1) rfl d_X12_isLetter_118 1 rfl ?_
              refine aw_iconst (v := 1) d_X12_isLetter_119 ic_1 ?_
              refine aw_icmp_ne (tgt := 127) d_X12_isLetter_120 rfl (fun c11 => ?_) (fun c11 => ?_)
              · have k := k.1 c11
                refine aw_iconst (v := 0) d_X12_isLetter_127 ic_0 ?_
                exact aw_zret rfl rfl d_X12_isLetter_128 ⟨Nat.le_refl _, Nat.le_refl _⟩ ⟨_, rfl, k⟩
              · have k := k.2 c11
                refine aw_iconst (v := 1) d_X12_isLetter_123 ic_1 ?_
                refine aw_goto (tgt := 128) d_X12_isLetter_124 rfl ?_
                exact aw_zret rfl rfl d_X12_isLetter_128 ⟨Nat.le_refl _, Nat.le_refl _⟩ ⟨_, rfl, k⟩
            · have k := k.2
              by_cases e12 : x0 = 109
              · refine aw_tableIn (off := 128) (tgt := 129) d_X12_isLetter_1 (by rw [e12]; decide) (by rw [e12]; decide) (by rw [e12]; decide) rfl ?_
                have k := k.1 e12
                refine aw_iload_n (i := 1) rfl d_X12_isLetter_129 1 rfl ?_
                refine aw_iconst (v := 2) d_X12_isLetter_130 ic_2 ?_
                refine aw_icmp_ne (tgt := 138) d_X12_isLetter_131 rfl (fun c13 => ?_) (fun c13 => ?_)
                · have k := k.1 c13
                  refine aw_iconst (v := 0) d_X12_isLetter_138 ic_0 ?_
                  exact aw_zret rfl rfl d_X12_isLetter_139 ⟨Nat.le_refl _, Nat.le_refl _⟩ ⟨_, rfl, k⟩
                · have k := k.2 c13
                  refine aw_iconst (v := 1) d_X12_isLetter_134 ic_1 ?_
                  refine aw_goto (tgt := 139) d_X12_isLetter_135 rfl ?_
                  exact aw_zret rfl rfl d_X12_isLetter_139 ⟨Nat.le_refl _, Nat.le_refl _⟩ ⟨_, rfl, k⟩
              · have k := k.2
                by_cases e14 : x0 = 110
                · refine aw_tableIn (off := 117) (tgt := 118) d_X12_isLetter_1 (by rw [e14]; decide) (by rw [e14]; decide) (by rw [e14]; decide) rfl ?_
                  have k := k.1 e14
                  refine aw_iload_n (i := 1) rfl d_X12_isLetter_118 1 rfl ?_
                  refine aw_iconst (v := 1) d_X12_isLetter_119 ic_1 ?_
                  refine aw_icmp_ne (tgt := 127) d_X12_isLetter_120 rfl (fun c15 => ?_) (fun c15 => ?_)
                  · have k := k.1 c15
                    refine aw_iconst (v := 0) d_X12_isLetter_127 ic_0 ?_
                    exact aw_zret rfl rfl d_X12_isLetter_128 ⟨Nat.le_refl _, Nat.le_refl _⟩ ⟨_, rfl, k⟩
                  · have k := k.2 c15
                    refine aw_iconst (v := 1) d_X12_isLetter_123 ic_1 ?_
                    refine aw_goto (tgt := 128) d_X12_isLetter_124 rfl ?_
                    exact aw_zret rfl rfl d_X12_isLetter_128 ⟨Nat.le_refl _, Nat.le_refl _⟩ ⟨_, rfl, k⟩
                · have k := k.2
                  by_cases e16 : x0 = 112
                  · refine aw_tableIn (off := 117) (tgt := 118) d_X12_isLetter_1 (by rw [e16]; decide) (by rw [e16]; decide) (by rw [e16]; decide) rfl ?_
                    have k := k.1 e16
                    refine aw_iload_n (i := 1) rfl d_X12_isLetter_118 1 rfl ?_
                    refine aw_iconst (v := 1) d_X12_isLetter_119 ic_1 ?_
                    refine aw_icmp_ne (tgt := 127) d_X12_isLetter_120 rfl (fun c17 => ?_) (fun c17 => ?_)
                    · have k := k.1 c17
                      refine aw_iconst (v := 0) d_X12_isLetter_127 ic_0 ?_
                      exact aw_zret rfl rfl d_X12_isLetter_128 ⟨Nat.le_refl _, Nat.le_refl _⟩ ⟨_, rfl, k⟩
                    · have k := k.2 c17
                      refine aw_iconst (v := 1) d_X12_isLetter_123 ic_1 ?_
                      refine aw_goto (tgt := 128) d_X12_isLetter_124 rfl ?_
                      exact aw_zret rfl rfl d_X12_isLetter_128 ⟨Nat.le_refl _, Nat.le_refl _⟩ ⟨_, rfl, k⟩
                  · have k := k.2
                    by_cases e18 : x0 = 116
                    · refine aw_tableIn (off := 115) (tgt := 116) d_X12_isLetter_1 (by rw [e18]; decide) (by rw [e18]; decide) (by rw [e18]; decide) rfl ?_
                      have k := k.1 e18
                      refine aw_iconst (v := 1) d_X12_isLetter_116 ic_1 ?_
                      exact aw_zret rfl rfl d_X12_isLetter_117 ⟨Nat.le_refl _, Nat.le_refl _⟩ ⟨_, rfl, k⟩
                    · have k := k.2
                      by_cases e19 : x0 = 119
                      · refine aw_tableIn (off := 117) (tgt := 118) d_X12_isLetter_1 (by rw [e19]; decide) (by rw [e19]; decide) (by rw [e19]; decide) rfl ?_
                        have k := k.1 e19
                        refine aw_iload_n (i := 1) rfl d_X12_isLetter_118 1 rfl ?_
                        refine aw_iconst (v := 1) d_X12_isLetter_119 ic_1 ?_
                        refine aw_icmp_ne (tgt := 127) d_X12_isLetter_120 rfl (fun c20 => ?_) (fun c20 => ?_)
                        · have k := k.1 c20
                          refine aw_iconst (v := 0) d_X12_isLetter_127 ic_0 ?_
                          exact aw_zret rfl rfl d_X12_isLetter_128 ⟨Nat.le_refl _, Nat.le_refl _⟩ ⟨_, rfl, k⟩
                        · have k := k.2 c20
                          refine aw_iconst (v := 1) d_X12_isLetter_123 ic_1 ?_
                          refine aw_goto (tgt := 128) d_X12_isLetter_124 rfl ?_
                          exact aw_zret rfl rfl d_X12_isLetter_128 ⟨Nat.le_refl _, Nat.le_refl _⟩ ⟨_, rfl, k⟩
                      · have k := k.2
                        by_cases e21 : x0 = 120
                        · refine aw_tableIn (off := 128) (tgt := 129) d_X12_isLetter_1 (by rw [e21]; decide) (by rw [e21]; decide) (by rw [e21]; decide) rfl ?_
                          have k := k.1 e21
                          refine aw_iload_n (i := 1) rfl d_X12_isLetter_129 1 rfl ?_
                          refine aw_iconst (v := 2) d_X12_isLetter_130 ic_2 ?_
                          refine aw_icmp_ne (tgt := 138) d_X12_isLetter_131 rfl (fun c22 => ?_) (fun c22 => ?_)
                          · have k := k.1 c22
                            refine aw_iconst (v := 0) d_X12_isLetter_138 ic_0 ?_
                            exact aw_zret rfl rfl d_X12_isLetter_139 ⟨Nat.le_refl _, Nat.le_refl _⟩ ⟨_, rfl, k⟩
                          · have k := k.2 c22
                            refine aw_iconst (v := 1) d_X12_isLetter_134 ic_1 ?_
                            refine aw_goto (tgt := 139) d_X12_isLetter_135 rfl ?_
                            exact aw_zret rfl rfl d_X12_isLetter_139 ⟨Nat.le_refl _, Nat.le_refl _⟩ ⟨_, rfl, k⟩
                        · have k := k.2
                          by_cases e23 : x0 = 121
                          · refine aw_tableIn (off := 128) (tgt := 129) d_X12_isLetter_1 (by rw [e23]; decide) (by rw [e23]; decide) (by rw [e23]; decide) rfl ?_
                            have k := k.1 e23
                            refine aw_iload_n (i := 1) rfl d_X12_isLetter_129 1 rfl ?_
                            refine aw_iconst (v := 2) d_X12_isLetter_130 ic_2 ?_
                            refine aw_icmp_ne (tgt := 138) d_X12_isLetter_131 rfl (fun c24 => ?_) (fun c24 => ?_)
                            · have k := k.1 c24
                              refine aw_iconst (v := 0) d_X12_isLetter_138 ic_0 ?_
                              exact aw_zret rfl rfl d_X12_isLetter_139 ⟨Nat.le_refl _, Nat.le_refl _⟩ ⟨_, rfl, k⟩
                            · have k := k.2 c24
                              refine aw_iconst (v := 1) d_X12_isLetter_134 ic_1 ?_
                              refine aw_goto (tgt := 139) d_X12_isLetter_135 rfl ?_
                              exact aw_zret rfl rfl d_X12_isLetter_139 ⟨Nat.le_refl _, Nat.le_refl _⟩ ⟨_, rfl, k⟩
                          · have k := k.2
                            have k := k ⟨e1, e3, e4, e6, e8, e10, e12, e14, e16, e18, e19, e21, e23⟩
                            have n25 := sw_ne (97) (by decide) e1
                            have n26 := sw_ne (99) (by decide) e3
                            have n27 := sw_ne (100) (by decide) e4
                            have n28 := sw_ne (101) (by decide) e6
                            have n29 := sw_ne (104) (by decide) e8
                            have n30 := sw_ne (107) (by decide) e10
                            have n31 := sw_ne (109) (by decide) e12
                            have n32 := sw_ne (110) (by decide) e14
                            have n33 := sw_ne (112) (by decide) e16
                            have n34 := sw_ne (116) (by decide) e18
                            have n35 := sw_ne (119) (by decide) e19
                            have n36 := sw_ne (120) (by decide) e21
                            have n37 := sw_ne (121) (by decide) e23
                            refine aw_tableD (tgt := 140) d_X12_isLetter_1 (by
                              rcases (show (x0 : Int32).toInt < 97 ∨ 121 < (x0 : Int32).toInt ∨ (x0 : Int32).toInt = 98 ∨ (x0 : Int32).toInt = 102 ∨ (x0 : Int32).toInt = 103 ∨ (x0 : Int32).toInt = 105 ∨ (x0 : Int32).toInt = 106 ∨ (x0 : Int32).toInt = 108 ∨ (x0 : Int32).toInt = 111 ∨ (x0 : Int32).toInt = 113 ∨ (x0 : Int32).toInt = 114 ∨ (x0 : Int32).toInt = 115 ∨ (x0 : Int32).toInt = 117 ∨ (x0 : Int32).toInt = 118 by omega) with e | e | e | e | e | e | e | e | e | e | e | e | e | e
                              · exact Or.inl e
                              · exact Or.inr (Or.inl e)
                              · exact Or.inr (Or.inr (by rw [e]; decide))
                              · exact Or.inr (Or.inr (by rw [e]; decide))
                              · exact Or.inr (Or.inr (by rw [e]; decide))
                              · exact Or.inr (Or.inr (by rw [e]; decide))
                              · exact Or.inr (Or.inr (by rw [e]; decide))
                              · exact Or.inr (Or.inr (by rw [e]; decide))
                              · exact Or.inr (Or.inr (by rw [e]; decide))
                              · exact Or.inr (Or.inr (by rw [e]; decide))
                              · exact Or.inr (Or.inr (by rw [e]; decide))
                              · exact Or.inr (Or.inr (by rw [e]; decide))
                              · exact Or.inr (Or.inr (by rw [e]; decide))
                              · exact Or.inr (Or.inr (by rw [e]; decide))) rfl ?_
                            refine aw_iconst (v := 0) d_X12_isLetter_140 ic_0 ?_
                            exact aw_zret rfl rfl d_X12_isLetter_141 ⟨Nat.le_refl _, Nat.le_refl _⟩ ⟨_, rfl, k⟩
theorem t_X12_isSign (d : Nat) (h : Hp_) (x0 : Int32) (K : Int32 → Hp_ → Prop) (k : (x0 = 61 → K 1 h) ∧ (¬ x0 = 61 → (x0 = 60 → K 1 h) ∧ (¬ x0 = 60 → (¬ x0 = 62 → K 0 h) ∧ (x0 = 62 → K 1 h)))) : Ci (m_X12_isSign (d + 0) 0 0) [.int x0] h K := by
  refine Ct.of (fun _ _ _ => trivial) rfl (Nat.le_of_ble_eq_true rfl) ?_
  show AW (m_X12_isSign (d + 0) 0 0) 0 0 0 [(0, .int x0)] [] h (kI K)
  refine aw_iload_n (i := 0) rfl d_X12_isSign_0 0 rfl ?_
  refine aw_bipush (v := 61) d_X12_isSign_1 ib_61 ?_
  refine aw_icmp_eq (tgt := 18) d_X12_isSign_3 rfl (fun c1 => ?_) (fun c1 => ?_)
  · have k := k.1 c1
    refine aw_iconst (v := 1) d_X12_isSign_18 ic_1 ?_
    refine aw_goto (tgt := 23) d_X12_isSign_19 rfl ?_
    exact aw_zret rfl rfl d_X12_isSign_23 ⟨Nat.le_refl _, Nat.le_refl _⟩ ⟨_, rfl, k⟩
  · have k := k.2 c1
    refine aw_iload_n (i := 0) rfl d_X12_isSign_6 0 rfl ?_
    refine aw_bipush (v := 60) d_X12_isSign_7 ib_60 ?_
    refine aw_icmp_eq (tgt := 18) d_X12_isSign_9 rfl (fun c2 => ?_) (fun c2 => ?_)
    · have k := k.1 c2
      refine aw_iconst (v := 1) d_X12_isSign_18 ic_1 ?_
      refine aw_goto (tgt := 23) d_X12_isSign_19 rfl ?_
      exact aw_zret rfl rfl d_X12_isSign_23 ⟨Nat.le_refl _, Nat.le_refl _⟩ ⟨_, rfl, k⟩
    · have k := k.2 c2
      refine aw_iload_n (i := 0) rfl d_X12_isSign_12 0 rfl ?_
      refine aw_bipush (v := 62) d_X12_isSign_13 ib_62 ?_
      refine aw_icmp_ne (tgt := 22) d_X12_isSign_15 rfl (fun c3 => ?_) (fun c3 => ?_)
      · have k := k.1 c3
        refine aw_iconst (v := 0) d_X12_isSign_22 ic_0 ?_
        exact aw_zret rfl rfl d_X12_isSign_23 ⟨Nat.le_refl _, Nat.le_refl _⟩ ⟨_, rfl, k⟩
      · have k := k.2 c3
        refine aw_iconst (v := 1) d_X12_isSign_18 ic_1 ?_
        refine aw_goto (tgt := 23) d_X12_isSign_19 rfl ?_
        exact aw_zret rfl rfl d_X12_isSign_23 ⟨Nat.le_refl _, Nat.le_refl _⟩ ⟨_, rfl, k⟩
theorem t_X12_ask (d : Nat) (h : Hp_) (w : Wf h)  (K : Hp_ → Prop) (k : (¬ (h_i h 1 34) = (-1) → Cv (m_X12_say (d + 0) 0 0) [.ref 1, .int 2] (h_im h 1 33 ((h_i h 1 33) + 1)) (fun h2 => Wf h2 ∧ (K h2))) ∧ ((h_i h 1 34) = (-1) → Ci (m_X12_look (d + 0) 0 0) [.ref 1] h (fun r7 h5 => Wf h5 ∧ ((r7 = 63 → Cv (m_X12_say (d + 0) 0 0) [.ref 1, .int 2] (h_im h5 1 33 ((h_i h5 1 33) + 1)) (fun h9 => Wf h9 ∧ (K h9))) ∧ (¬ r7 = 63 → Cv (m_X12_bad (d + 0) 0 0) [.ref 1] h5 (fun h12 => Wf h12 ∧ (Cv (m_X12_say (d + 0) 0 0) [.ref 1, .int 2] (h_im h12 1 33 ((h_i h12 1 33) + 1)) (fun h15 => Wf h15 ∧ (K h15))))))))) : Cv (m_X12_ask (d + 1) 0 0) [.ref 1] h K := by
  refine Ct.of (fun _ _ _ => trivial) rfl (Nat.le_of_ble_eq_true rfl) ?_
  show AW (m_X12_ask (d + 1) 0 0) 0 0 0 [(0, .ref 1)] [] h (kV K)
  refine aw_aload_n (i := 0) rfl d_X12_ask_0 0 rfl ?_
  refine aw_geti (k0 := 34) kc_12 (ws_1 w) (Nat.le_of_ble_eq_true rfl) tw_1776 d_X12_ask_1 rfl ?_
  refine aw_iconst (v := (-1)) d_X12_ask_4 ic_m1 ?_
  refine aw_icmp_ne (tgt := 21) d_X12_ask_5 rfl (fun c1 => ?_) (fun c1 => ?_)
  · have k := k.1 c1
    refine aw_aload_n (i := 0) rfl d_X12_ask_21 0 rfl ?_
    refine aw_dup d_X12_ask_22 rfl ?_
    refine aw_geti (k0 := 33) kc_12 (ws_1 w) (Nat.le_of_ble_eq_true rfl) tw_1775 d_X12_ask_23 rfl ?_
    refine aw_iconst (v := 1) d_X12_ask_26 ic_1 ?_
    refine aw_iadd d_X12_ask_27 ?_
    refine aw_puti (k0 := 33) kc_12 (ws_1 w) (Nat.le_of_ble_eq_true rfl) tw_1775 d_X12_ask_28 rfl rfl nf_i ?_
    refine aw_aload_n (i := 0) rfl d_X12_ask_31 0 rfl ?_
    refine aw_iconst (v := 2) d_X12_ask_32 ic_2 ?_
    refine aw_Vv 1 [.int 2] [] d_X12_ask_33 (cV_X12_say (d + 0) 0 0) kc_12 (ws_1 w) tw_2210 rfl (rr0 (Nat.le_of_ble_eq_true rfl) (Nat.le_of_ble_eq_true rfl)) (Nat.le_of_ble_eq_true rfl) xs0 k (fun h2 kk => ?_)
    obtain ⟨w3, k⟩ := kk
    exact aw_vret rfl d_X12_ask_36 ⟨Nat.le_refl _, Nat.le_refl _⟩ ⟨rfl, k⟩
  · have k := k.2 c1
    refine aw_aload_n (i := 0) rfl d_X12_ask_8 0 rfl ?_
    refine aw_Vi 1 [] [] d_X12_ask_9 (cV_X12_look (d + 0) 0 0) kc_12 (ws_1 w) tw_2206 rfl (rr0 (Nat.le_of_ble_eq_true rfl) (Nat.le_of_ble_eq_true rfl)) (Nat.le_of_ble_eq_true rfl) xs0 k (fun r7 h5 kk => ?_)
    obtain ⟨w6, k⟩ := kk
    refine aw_bipush (v := 63) d_X12_ask_12 ib_63 ?_
    refine aw_icmp_eq (tgt := 21) d_X12_ask_14 rfl (fun c8 => ?_) (fun c8 => ?_)
    · have k := k.1 c8
      refine aw_aload_n (i := 0) rfl d_X12_ask_21 0 rfl ?_
      refine aw_dup d_X12_ask_22 rfl ?_
      refine aw_geti (k0 := 33) kc_12 (ws_1 w6) (Nat.le_of_ble_eq_true rfl) tw_1775 d_X12_ask_23 rfl ?_
      refine aw_iconst (v := 1) d_X12_ask_26 ic_1 ?_
      refine aw_iadd d_X12_ask_27 ?_
      refine aw_puti (k0 := 33) kc_12 (ws_1 w6) (Nat.le_of_ble_eq_true rfl) tw_1775 d_X12_ask_28 rfl rfl nf_i ?_
      refine aw_aload_n (i := 0) rfl d_X12_ask_31 0 rfl ?_
      refine aw_iconst (v := 2) d_X12_ask_32 ic_2 ?_
      refine aw_Vv 1 [.int 2] [] d_X12_ask_33 (cV_X12_say (d + 0) 0 0) kc_12 (ws_1 w6) tw_2210 rfl (rr0 (Nat.le_of_ble_eq_true rfl) (Nat.le_of_ble_eq_true rfl)) (Nat.le_of_ble_eq_true rfl) xs0 k (fun h9 kk => ?_)
      obtain ⟨w10, k⟩ := kk
      exact aw_vret rfl d_X12_ask_36 ⟨Nat.le_refl _, Nat.le_refl _⟩ ⟨rfl, k⟩
    · have k := k.2 c8
      refine aw_aload_n (i := 0) rfl d_X12_ask_17 0 rfl ?_
      refine aw_Vv 1 [] [] d_X12_ask_18 (cV_X12_bad (d + 0) 0 0) kc_12 (ws_1 w6) tw_2225 rfl (rr0 (Nat.le_of_ble_eq_true rfl) (Nat.le_of_ble_eq_true rfl)) (Nat.le_of_ble_eq_true rfl) xs0 k (fun h12 kk => ?_)
      obtain ⟨w13, k⟩ := kk
      refine aw_aload_n (i := 0) rfl d_X12_ask_21 0 rfl ?_
      refine aw_dup d_X12_ask_22 rfl ?_
      refine aw_geti (k0 := 33) kc_12 (ws_1 w13) (Nat.le_of_ble_eq_true rfl) tw_1775 d_X12_ask_23 rfl ?_
      refine aw_iconst (v := 1) d_X12_ask_26 ic_1 ?_
      refine aw_iadd d_X12_ask_27 ?_
      refine aw_puti (k0 := 33) kc_12 (ws_1 w13) (Nat.le_of_ble_eq_true rfl) tw_1775 d_X12_ask_28 rfl rfl nf_i ?_
      refine aw_aload_n (i := 0) rfl d_X12_ask_31 0 rfl ?_
      refine aw_iconst (v := 2) d_X12_ask_32 ic_2 ?_
      refine aw_Vv 1 [.int 2] [] d_X12_ask_33 (cV_X12_say (d + 0) 0 0) kc_12 (ws_1 w13) tw_2210 rfl (rr0 (Nat.le_of_ble_eq_true rfl) (Nat.le_of_ble_eq_true rfl)) (Nat.le_of_ble_eq_true rfl) xs0 k (fun h15 kk => ?_)
      obtain ⟨w16, k⟩ := kk
      exact aw_vret rfl d_X12_ask_36 ⟨Nat.le_refl _, Nat.le_refl _⟩ ⟨rfl, k⟩
end
section
/-! the reference's reader: its small methods -/
def wzp : List Nat := [1033, 1034, 1035, 1036, 226999]
abbrev pa (h : Hp_) : Int := (h_i h 1 33).toInt
abbrev pz (h : Hp_) : Int := (h_i h 1 32).toInt
theorem pz_in {h : Hp_} (I : Iv h) : rin (pz h) (0, 160) := by
  have := I.2.1 1 32
  rwa [show tf 1 32 = (0, 160) by decide +kernel] at this
theorem pa_in {h : Hp_} (I : Iv h) : rin (pa h) (0, 180) := by
  have := I.2.1 1 33
  rwa [show tf 1 33 = (0, 180) by decide +kernel] at this
theorem i33 {h : Hp_} (I : Iv h) {x : Int32} (b : rin x.toInt (0, 180)) : Iv (h_im h 1 33 x) := I.im (by rw [show tf 1 33 = (0, 180) by decide +kernel]; exact b) (by decide)
theorem i34 {h : Hp_} (I : Iv h) (x : Int32) : Iv (h_im h 1 34 x) := I.im (by rw [show tf 1 34 = rtop by decide +kernel]; exact rtop_in _) (by decide)
theorem i36 {h : Hp_} (I : Iv h) {x : Int32} (b : rin x.toInt (0, 559)) : Iv (h_im h 1 36 x) := I.im (by rw [show tf 1 36 = (0, 559) by decide +kernel]; exact b) (by decide)
theorem i226 {h : Hp_} (I : Iv h) (k : Nat) (x : Int32) : Iv (h_im h 226 k x) := tr_ 226 (by decide +kernel) I k x (by decide) (by decide)
theorem f_ne {h : Hp_} {k j : Nat} {x : Int32} (n : j ≠ k) : h_i (h_im h 1 k x) 1 j = h_i h 1 j := by rw [h_i_im, if_neg (fun e => n e.2)]
/-- what look leaves: only the place may have moved on, over blanks -/
def Lk (h : Hp_) (r : Int32) (h' : Hp_) : Prop := Iv h' ∧ Fr [1033] h h' ∧ pa h ≤ pa h' ∧ (pa h' ≤ pa h ∨ pa h' ≤ pz h) ∧ ((r = -1 ∧ pz h ≤ pa h') ∨ (pa h' < pz h ∧ r = h_i h 225 (h_i h' 1 33).toNatClampNeg))
theorem c_look (d : Nat) {h : Hp_} (I : Iv h) : Ci (m_X12_look (d + 0) 0 0) [.ref 1] h (fun r h' => Lk h r h') := by
  have t1 : (1 : Int32).toInt = 1 := rfl
  have lp : ∀ (q : Nat) (h2 : Hp_), Iv h2 → Fr [1033] h h2 → pa h ≤ pa h2 → (pa h2 ≤ pa h ∨ pa h2 ≤ pz h) → pz h - pa h2 ≤ q → AW (m_X12_look (d + 0) 0 0) 0 0 0 [(0, .ref 1)] [] h2 (kI (fun r h' => Lk h r h')) := by
    intro q
    induction q with
    | zero =>
      intro h2 I2 F2 l1 l2 m
      have ez : h_i h2 1 32 = h_i h 1 32 := (F2.2 1 32 (by decide +kernel)).1
      have fin : Lk h (-1) h2 := ⟨I2, F2, l1, l2, Or.inl ⟨rfl, by omega⟩⟩
      refine t_X12_look_0 d h2 I2.1 _ ⟨fun y => ⟨fun _ => fin, fun z => absurd y z⟩, fun z => ?_⟩
      rw [ez] at z
      have z := q_nle z
      have m' : (h_i h 1 32).toInt - (h_i h2 1 33).toInt ≤ 0 := m
      omega
    | succ q ih =>
      intro h2 I2 F2 l1 l2 m
      have ez : h_i h2 1 32 = h_i h 1 32 := (F2.2 1 32 (by decide +kernel)).1
      have et : ∀ k, h_i h2 225 k = h_i h 225 k := fun k => fr_i F2 (by decide +kernel) k
      have p0 : 0 ≤ (h_i h2 1 33).toInt := (pa_in I2).1
      have z1 : (h_i h 1 32).toInt ≤ 160 := (pz_in I).2
      have m' : (h_i h 1 32).toInt - (h_i h2 1 33).toInt ≤ (q + 1 : Nat) := m
      have fin1 : h_i h2 1 32 ≤ h_i h2 1 33 → Lk h (-1) h2 := fun y => ⟨I2, F2, l1, l2, Or.inl ⟨rfl, by rw [ez] at y; exact q_le.mp y⟩⟩
      have fin2 : ¬ h_i h2 1 32 ≤ h_i h2 1 33 → Lk h (h_i h2 225 (h_i h2 1 33).toNatClampNeg) h2 := fun y => ⟨I2, F2, l1, l2, Or.inr ⟨by rw [ez] at y; exact q_nle y, et _⟩⟩
      refine t_X12_look_0 d h2 I2.1 _ ⟨fun y => ⟨fun _ => fin1 y, fun z => absurd y z⟩, fun z => ?_⟩
      have z' := z
      rw [ez] at z'
      have z' := q_nle z'
      have v : vp_in (h_i h2 1 33) 160 := dp_in (lo := 0) (hi := 159) ⟨p0, by show _ ≤ (159 : Int); omega⟩ (by decide) (by decide)
      refine ⟨v, fun _ => ⟨fun y => absurd y z, fun _ => ⟨v, fin2 z⟩⟩, fun _ => ?_⟩
      have ex : (h_i h2 1 33 + 1).toInt = (h_i h2 1 33).toInt + 1 := tx_add (by rw [t1]; omega) (by rw [t1]; omega)
      have l1' : (h_i h 1 33).toInt ≤ (h_i h2 1 33).toInt := l1
      refine ih _ (i33 I2 ⟨by show (0 : Int) ≤ _; omega, by show _ ≤ (180 : Int); omega⟩) (F2.im (by decide +kernel)) ?_ ?_ ?_
      · show (h_i h 1 33).toInt ≤ (h_i (h_im h2 1 33 _) 1 33).toInt
        rw [im_at]; omega
      · right
        show (h_i (h_im h2 1 33 _) 1 33).toInt ≤ (h_i h 1 32).toInt
        rw [im_at]; omega
      · show (h_i h 1 32).toInt - (h_i (h_im h2 1 33 _) 1 33).toInt ≤ _
        rw [im_at]; omega
  refine Ct.of (fun _ _ _ => trivial) rfl (Nat.le_of_ble_eq_true rfl) ?_
  have z0 : 0 ≤ (h_i h 1 32).toInt := (pz_in I).1
  have p0 : 0 ≤ (h_i h 1 33).toInt := (pa_in I).1
  have z1 : (h_i h 1 32).toInt ≤ 160 := (pz_in I).2
  exact lp 160 h I (Fr.rf _ _) (Int.le_refl _) (Or.inl (Int.le_refl _)) (by show (h_i h 1 32).toInt - (h_i h 1 33).toInt ≤ 160; omega)
theorem c_bad (d : Nat) {h : Hp_} (I : Iv h) : Cv (m_X12_bad (d + 0) 0 0) [.ref 1] h (fun h' => Iv h' ∧ Fr [1034] h h' ∧ ¬ h_i h' 1 34 = -1) := by
  have p0 : 0 ≤ (h_i h 1 33).toInt := (pa_in I).1
  refine t_X12_bad d h I.1 _ ⟨fun z => ⟨i34 I _, (Fr.rf _ _).im (by decide +kernel), by rw [im_at]; exact z⟩, fun _ => ⟨i34 I _, (Fr.rf _ _).im (by decide +kernel), ?_⟩⟩
  rw [im_at]
  intro e
  rw [e] at p0
  exact absurd p0 (by decide)
theorem c_say (d : Nat) {h : Hp_} (I : Iv h) (x : Int32) (l : (h_i h 1 36).toInt ≤ 558) : Cv (m_X12_say (d + 0) 0 0) [.ref 1, .int x] h (fun h' => Iv h' ∧ Fr [1036, 226999] h h' ∧ (h_i h' 1 36).toInt = (h_i h 1 36).toInt + 1 ∧ h_i h' 226 (h_i h 1 36).toNatClampNeg = x ∧ ∀ k, k ≠ (h_i h 1 36).toNatClampNeg → h_i h' 226 k = h_i h 226 k) := by
  have t1 : (1 : Int32).toInt = 1 := rfl
  have sr := I.2.1 1 36
  rw [show tf 1 36 = (0, 559) by decide +kernel] at sr
  have s0 : 0 ≤ (h_i h 1 36).toInt := sr.1
  have ex : (h_i h 1 36 + 1).toInt = (h_i h 1 36).toInt + 1 := tx_add (by rw [t1]; omega) (by rw [t1]; omega)
  refine t_X12_say d h I.1 x _ ⟨dp_in (lo := 0) (hi := 559) ⟨s0, by show _ ≤ (559 : Int); omega⟩ (by decide) (by decide), i36 (i226 I _ _) ⟨by show (0 : Int) ≤ _; omega, by show _ ≤ (559 : Int); omega⟩, ((Fr.rf _ _).im (inw_row (by decide +kernel) _)).im (by decide +kernel), by rw [im_at]; exact ex, by rw [im_ne (by decide), im_at], fun k hk => ?_⟩
  rw [im_ne (by decide), h_i_im, if_neg (fun e => hk e.2)]
end
section
/-! a number read -/
def Nu (h : Hp_) (h' : Hp_) : Prop := Iv h' ∧ Fr [1033, 1034] h h' ∧ pa h ≤ pa h' ∧ pa h' ≤ pz h ∧ (h_i h' 1 34 = -1 → pa h < pa h')
theorem c_isDigit (d : Nat) (h : Hp_) (x : Int32) : Ci (m_X12_isDigit (d + 0) 0 0) [.int x] h (fun r h' => h' = h ∧ ((r = 1 ∧ ¬ x < 48 ∧ ¬ 57 < x) ∨ (r = 0 ∧ ¬ (¬ x < 48 ∧ ¬ 57 < x)))) :=
  t_X12_isDigit d h x _ ⟨fun z => ⟨rfl, Or.inr ⟨rfl, fun y => y.1 z⟩⟩, fun z => ⟨fun y => ⟨rfl, Or.inr ⟨rfl, fun u => u.2 y⟩⟩, fun y => ⟨rfl, Or.inl ⟨rfl, z, y⟩⟩⟩⟩
theorem nu_loop (d : Nat) (h : Hp_) (I : Iv h) : ∀ (q : Nat) (x1 x2 : Int32) (h2 : Hp_), Iv h2 → Fr [1033, 1034] h h2 → h_i h2 1 34 = -1 → pa h ≤ pa h2 → pa h2 ≤ pz h → pz h - pa h2 ≤ q → (pa h < pa h2 ∨ (x2 = 0 ∧ pa h2 < pz h ∧ (¬ h_i h2 225 (h_i h2 1 33).toNatClampNeg < 48 ∧ ¬ 57 < h_i h2 225 (h_i h2 1 33).toNatClampNeg))) →
    AW (m_X12_number (d + 1) 0 0) 0 0 20 [(0, .ref 1), (1, .int x1), (2, .int x2)] [] h2 (kI (fun _ h' => Nu h h')) := by
  have t1 : (1 : Int32).toInt = 1 := rfl
  have z1 : (h_i h 1 32).toInt ≤ 160 := (pz_in I).2
  intro q
  induction q with
  | zero =>
    intro x1 x2 h2 I2 F2 w l1 l2 m c
    have ez : h_i h2 1 32 = h_i h 1 32 := (F2.2 1 32 (by decide +kernel)).1
    have m' : (h_i h 1 32).toInt - (h_i h2 1 33).toInt ≤ 0 := m
    refine t_X12_number_20 d h2 I2.1 x1 x2 _ ⟨fun _ => ⟨I2, F2, l1, l2, fun _ => ?_⟩, fun z => ?_⟩
    · rcases c with c | c
      · exact c
      · have c2 : (h_i h2 1 33).toInt < (h_i h 1 32).toInt := c.2.1
        omega
    · rw [ez] at z
      have z := q_nle z
      omega
  | succ q ih =>
    intro x1 x2 h2 I2 F2 w l1 l2 m c
    have ez : h_i h2 1 32 = h_i h 1 32 := (F2.2 1 32 (by decide +kernel)).1
    have m' : (h_i h 1 32).toInt - (h_i h2 1 33).toInt ≤ (q + 1 : Nat) := m
    have p0 : 0 ≤ (h_i h2 1 33).toInt := (pa_in I2).1
    have l1' : (h_i h 1 33).toInt ≤ (h_i h2 1 33).toInt := l1
    refine t_X12_number_20 d h2 I2.1 x1 x2 _ ⟨fun z => ⟨I2, F2, l1, l2, fun _ => ?_⟩, fun z => ?_⟩
    · rcases c with c | c
      · exact c
      · rw [ez] at z
        have z := q_le.mp z
        have c2 : (h_i h2 1 33).toInt < (h_i h 1 32).toInt := c.2.1
        omega
    · rw [ez] at z
      have z := q_nle z
      have v : vp_in (h_i h2 1 33) 160 := dp_in (lo := 0) (hi := 159) ⟨p0, by show _ ≤ (159 : Int); omega⟩ (by decide) (by decide)
      refine ⟨v, Ci.mono (c_isDigit d h2 _) (fun r h3 k => ?_)⟩
      obtain ⟨e3, k⟩ := k
      subst e3
      refine ⟨I2.1, fun r0 => ⟨I2, F2, l1, l2, fun _ => ?_⟩, fun r1 => ⟨fun n4 => ⟨v, ?_⟩, fun e4 => ?_⟩⟩
      · rcases c with c | c
        · exact c
        · rcases k with k | k
          · rw [r0] at k; exact absurd k.1 (by decide)
          · exact absurd c.2.2 k.2
      · have ex : (h_i h3 1 33 + 1).toInt = (h_i h3 1 33).toInt + 1 := tx_add (by rw [t1]; omega) (by rw [t1]; omega)
        refine ih _ _ _ (i33 I2 ⟨by show (0 : Int) ≤ _; omega, by show _ ≤ (180 : Int); omega⟩) (F2.im (by decide +kernel)) (by rw [f_ne (by decide)]; exact w) ?_ ?_ ?_ (Or.inl ?_)
        · show (h_i h 1 33).toInt ≤ (h_i (h_im h3 1 33 _) 1 33).toInt
          rw [im_at]; omega
        · show (h_i (h_im h3 1 33 _) 1 33).toInt ≤ (h_i h 1 32).toInt
          rw [im_at]; omega
        · show (h_i h 1 32).toInt - (h_i (h_im h3 1 33 _) 1 33).toInt ≤ _
          rw [im_at]; omega
        · show (h_i h 1 33).toInt < (h_i (h_im h3 1 33 _) 1 33).toInt
          rw [im_at]; omega
      · refine Cv.mono (c_bad d I2) (fun h4 k4 => ⟨k4.1.1, k4.1, F2.tr (k4.2.1.more (by decide +kernel)), ?_, ?_, fun y => absurd y k4.2.2⟩)
        · show (h_i h 1 33).toInt ≤ (h_i h4 1 33).toInt
          rw [(k4.2.1.2 1 33 (by decide +kernel)).1]; exact l1'
        · show (h_i h4 1 33).toInt ≤ (h_i h 1 32).toInt
          rw [(k4.2.1.2 1 33 (by decide +kernel)).1]; exact l2
theorem c_number (d : Nat) {h : Hp_} (I : Iv h) (w : h_i h 1 34 = -1) (l : pa h ≤ pz h) : Ci (m_X12_number (d + 1) 0 0) [.ref 1] h (fun _ h' => Nu h h') := by
  have z1 : (h_i h 1 32).toInt ≤ 160 := (pz_in I).2
  have p0 : 0 ≤ (h_i h 1 33).toInt := (pa_in I).1
  refine t_X12_number d h I.1 _ (Ci.mono (c_look d I) (fun r h2 L => ?_))
  obtain ⟨I2, F2, l1, l2, lr⟩ := L
  have l1' : (h_i h 1 33).toInt ≤ (h_i h2 1 33).toInt := l1
  have l2' : (h_i h2 1 33).toInt ≤ (h_i h 1 32).toInt := by
    have l' : (h_i h 1 33).toInt ≤ (h_i h 1 32).toInt := l
    rcases l2 with u | u
    · have u' : (h_i h2 1 33).toInt ≤ (h_i h 1 33).toInt := u
      omega
    · exact u
  have F2' : Fr [1033, 1034] h h2 := F2.more (by decide +kernel)
  have w2 : h_i h2 1 34 = -1 := by rw [(F2.2 1 34 (by decide +kernel)).1]; exact w
  refine ⟨I2.1, Ci.mono (c_isDigit d h2 r) (fun r6 h4 k => ?_)⟩
  obtain ⟨e4, k⟩ := k
  subst e4
  refine ⟨I2.1, fun n0 => ?_, fun _ => ?_⟩
  · rcases k with k | k
    · rcases lr with u | u
      · rw [u.1] at k; exact absurd (by decide) k.2.1
      · refine nu_loop d h I 160 0 0 h4 I2 F2' w2 l1 l2' (by show (h_i h 1 32).toInt - (h_i h4 1 33).toInt ≤ 160; omega) (Or.inr ⟨rfl, u.1, ?_⟩)
        rw [fr_i F2 (a := 225) (by decide +kernel), ← u.2]
        exact k.2
    · exact absurd k.1 n0
  · refine Cv.mono (c_bad d I2) (fun h5 k5 => ⟨k5.1.1, k5.1, F2'.tr (k5.2.1.more (by decide +kernel)), ?_, ?_, fun y => absurd y k5.2.2⟩)
    · show (h_i h 1 33).toInt ≤ (h_i h5 1 33).toInt
      rw [(k5.2.1.2 1 33 (by decide +kernel)).1]; exact l1'
    · show (h_i h5 1 33).toInt ≤ (h_i h 1 32).toInt
      rw [(k5.2.1.2 1 33 (by decide +kernel)).1]; exact l2'
end
section
/-! a number within bounds; brackets opened and closed -/
def Wi (h : Hp_) (x1 x2 r : Int32) (h' : Hp_) : Prop := Nu h h' ∧ (h_i h' 1 34 = -1 → x1 ≤ r ∧ r ≤ x2)
theorem c_within (d : Nat) {h : Hp_} (I : Iv h) (w : h_i h 1 34 = -1) (l : pa h ≤ pz h) (x1 x2 : Int32) : Ci (m_X12_within (d + 2) 0 0) [.ref 1, .int x1, .int x2] h (fun r h' => Wi h x1 x2 r h') := by
  have p0 : 0 ≤ (h_i h 1 33).toInt := (pa_in I).1
  have t1 : (1 : Int32).toInt = 1 := rfl
  refine t_X12_within d h I.1 x1 x2 _ (Ci.mono (c_number d I w l) (fun r h2 N => ?_))
  have I2 := N.1
  refine ⟨I2.1, fun n => ⟨N, fun y => absurd y n⟩, fun e => ⟨fun b => ⟨N, fun _ => b⟩, fun _ => ?_⟩⟩
  have g : (h_i h 1 33).toInt < (h_i h2 1 33).toInt := N.2.2.2.2 e
  have u : (h_i h2 1 33).toInt ≤ 180 := (pa_in I2).2
  have em : (h_i h2 1 33 - 1).toInt = (h_i h2 1 33).toInt - 1 := by rw [tx_sub (by rw [t1]; omega) (by rw [t1]; omega), t1]
  have ne : ¬ h_i (h_im h2 1 34 (h_i h2 1 33 - 1)) 1 34 = -1 := by
    rw [im_at]
    intro y
    have y := congrArg Int32.toInt y
    rw [em, show (-1 : Int32).toInt = -1 from rfl] at y
    omega
  refine ⟨⟨i34 I2 _, N.2.1.im (by decide +kernel), ?_, ?_, fun y => absurd y ne⟩, fun y => absurd y ne⟩
  · show (h_i h 1 33).toInt ≤ (h_i (h_im h2 1 34 _) 1 33).toInt
    rw [f_ne (by decide)]; exact N.2.2.1
  · show (h_i (h_im h2 1 34 _) 1 33).toInt ≤ (h_i h 1 32).toInt
    rw [f_ne (by decide)]; exact N.2.2.2.1
theorem dp_in7 {h : Hp_} (I : Iv h) : rin (h_i h 1 35).toInt (0, 7) := by
  have := I.2.1 1 35
  rwa [show tf 1 35 = (0, 7) by decide +kernel] at this
theorem i35 {h : Hp_} (I : Iv h) {x : Int32} (b : rin x.toInt (0, 7)) : Iv (h_im h 1 35 x) := I.im (by rw [show tf 1 35 = (0, 7) by decide +kernel]; exact b) (by decide)
/-- a bracket opened: one deeper, one further; or wrong -/
theorem c_opens (d : Nat) {h : Hp_} (I : Iv h) (l : pa h < pz h) (dl : (h_i h 1 35).toInt ≤ 6) : Ci (m_X12_opens (d + 1) 0 0) [.ref 1] h (fun r h' => Iv h' ∧ Fr [1033, 1034, 1035] h h' ∧ ((r = 1 ∧ h_i h' 1 34 = h_i h 1 34 ∧ pa h' = pa h + 1 ∧ (h_i h' 1 35).toInt = (h_i h 1 35).toInt + 1 ∧ (h_i h 1 35).toInt ≤ 5) ∨ (r = 0 ∧ ¬ h_i h' 1 34 = -1 ∧ h_i h' 1 33 = h_i h 1 33 ∧ h_i h' 1 35 = h_i h 1 35))) := by
  have t1 : (1 : Int32).toInt = 1 := rfl
  have t6 : (6 : Int32).toInt = 6 := rfl
  have p0 : 0 ≤ (h_i h 1 33).toInt := (pa_in I).1
  have z1 : (h_i h 1 32).toInt ≤ 160 := (pz_in I).2
  have l' : (h_i h 1 33).toInt < (h_i h 1 32).toInt := l
  have d0 : 0 ≤ (h_i h 1 35).toInt := (dp_in7 I).1
  have e33 : (h_i h 1 33 + 1).toInt = (h_i h 1 33).toInt + 1 := tx_add (by rw [t1]; omega) (by rw [t1]; omega)
  have e35 : (h_i h 1 35 + 1).toInt = (h_i h 1 35).toInt + 1 := tx_add (by rw [t1]; omega) (by rw [t1]; omega)
  refine t_X12_opens d h I.1 _ ⟨fun n => ?_, fun _ => ?_⟩
  · have d5 : (h_i h 1 35).toInt ≤ 5 := by
      rcases Int.lt_or_le (h_i h 1 35).toInt 6 with u | u
      · omega
      · exact absurd (Int32.toInt_inj.mp (by rw [t6]; omega)) n
    refine ⟨i33 (i35 I ⟨by show (0 : Int) ≤ _; omega, by show _ ≤ (7 : Int); omega⟩) ⟨by show (0 : Int) ≤ _; omega, by show _ ≤ (180 : Int); omega⟩, ((Fr.rf _ _).im (by decide +kernel)).im (by decide +kernel), Or.inl ⟨rfl, ?_, ?_, ?_, d5⟩⟩
    · rw [f_ne (by decide), f_ne (by decide)]
    · show (h_i (h_im _ 1 33 _) 1 33).toInt = _
      rw [im_at]; exact e33
    · rw [f_ne (by decide), im_at]; exact e35
  · exact Cv.mono (c_bad d I) (fun h2 k => ⟨k.1.1, k.1, k.2.1.more (by decide +kernel), Or.inr ⟨rfl, k.2.2, (k.2.1.2 1 33 (by decide +kernel)).1, (k.2.1.2 1 35 (by decide +kernel)).1⟩⟩)
/-- a bracket closed: one less deep; the place one further, wherever it was -/
theorem c_closes (d : Nat) {h : Hp_} (I : Iv h) (x : Int32) (l : (h_i h 1 34 = -1 → pa h ≤ pz h) ∧ pa h ≤ 179) (hx : ¬ x = -1) (dl : 1 ≤ (h_i h 1 35).toInt) : Cv (m_X12_closes (d + 1) 0 0) [.ref 1, .int x] h (fun h' => Iv h' ∧ Fr [1033, 1034, 1035] h h' ∧ (h_i h' 1 35).toInt = (h_i h 1 35).toInt - 1 ∧ pa h + 1 ≤ pa h' ∧ (¬ h_i h 1 34 = -1 → h_i h' 1 34 = h_i h 1 34 ∧ pa h' = pa h + 1) ∧ (h_i h 1 34 = -1 → pa h' ≤ pz h + 1 ∧ (h_i h' 1 34 = -1 → pa h' ≤ pz h))) := by
  have t1 : (1 : Int32).toInt = 1 := rfl
  have p0 : 0 ≤ (h_i h 1 33).toInt := (pa_in I).1
  have z1 : (h_i h 1 32).toInt ≤ 160 := (pz_in I).2
  have d7 : (h_i h 1 35).toInt ≤ 7 := (dp_in7 I).2
  have st : ∀ h2, Iv h2 → Fr [1033, 1034, 1035] h h2 → h_i h2 1 35 = h_i h 1 35 → 0 ≤ pa h2 → pa h2 ≤ 179 → Iv (h_im (h_im h2 1 33 ((h_i h2 1 33) + 1)) 1 35 ((h_i h2 1 35) - 1)) ∧ Fr [1033, 1034, 1035] h (h_im (h_im h2 1 33 ((h_i h2 1 33) + 1)) 1 35 ((h_i h2 1 35) - 1)) ∧ (h_i (h_im (h_im h2 1 33 ((h_i h2 1 33) + 1)) 1 35 ((h_i h2 1 35) - 1)) 1 35).toInt = (h_i h 1 35).toInt - 1 ∧ pa (h_im (h_im h2 1 33 ((h_i h2 1 33) + 1)) 1 35 ((h_i h2 1 35) - 1)) = pa h2 + 1 ∧ h_i (h_im (h_im h2 1 33 ((h_i h2 1 33) + 1)) 1 35 ((h_i h2 1 35) - 1)) 1 34 = h_i h2 1 34 := by
    intro h2 I2 F2 e5 a0 a1
    have a0' : 0 ≤ (h_i h2 1 33).toInt := a0
    have a1' : (h_i h2 1 33).toInt ≤ 179 := a1
    have e33 : (h_i h2 1 33 + 1).toInt = (h_i h2 1 33).toInt + 1 := tx_add (by rw [t1]; omega) (by rw [t1]; omega)
    have e35 : (h_i h2 1 35 - 1).toInt = (h_i h 1 35).toInt - 1 := by rw [e5, tx_sub (by rw [t1]; omega) (by rw [t1]; omega), t1]
    refine ⟨i35 (i33 I2 ⟨by show (0 : Int) ≤ _; omega, by show _ ≤ (180 : Int); omega⟩) ⟨by show (0 : Int) ≤ _; omega, by show _ ≤ (7 : Int); omega⟩, (F2.im (by decide +kernel)).im (by decide +kernel), by rw [im_at]; exact e35, ?_, by rw [f_ne (by decide), f_ne (by decide)]⟩
    show (h_i (h_im (h_im h2 1 33 _) 1 35 _) 1 33).toInt = _
    rw [f_ne (by decide), im_at]; exact e33
  refine t_X12_closes d h I.1 x _ ⟨fun n => ?_, fun e => ?_⟩
  · obtain ⟨s1, s2, s3, s4, s5⟩ := st h I (Fr.rf _ _) rfl p0 l.2
    exact ⟨s1, s2, s3, by omega, fun _ => ⟨s5, s4⟩, fun y => absurd y n⟩
  · have lw : (h_i h 1 33).toInt ≤ (h_i h 1 32).toInt := l.1 e
    refine Ci.mono (c_look d I) (fun r h2 L => ?_)
    obtain ⟨I2, F2, l1, l2, lr⟩ := L
    have F2' : Fr [1033, 1034, 1035] h h2 := F2.more (by decide +kernel)
    have e5 : h_i h2 1 35 = h_i h 1 35 := (F2.2 1 35 (by decide +kernel)).1
    have e4 : h_i h2 1 34 = h_i h 1 34 := (F2.2 1 34 (by decide +kernel)).1
    have l1' : (h_i h 1 33).toInt ≤ (h_i h2 1 33).toInt := l1
    have l2' : (h_i h2 1 33).toInt ≤ (h_i h 1 32).toInt := by
      rcases l2 with u | u
      · have u' : (h_i h2 1 33).toInt ≤ (h_i h 1 33).toInt := u
        omega
      · exact u
    refine ⟨I2.1, fun er => ?_, fun _ => ?_⟩
    · have at2 : (h_i h2 1 33).toInt < (h_i h 1 32).toInt := by
        rcases lr with u | u
        · exact absurd (er.symm.trans u.1) hx
        · exact u.1
      obtain ⟨s1, s2, s3, s4, s5⟩ := st h2 I2 F2' e5 (by show 0 ≤ (h_i h2 1 33).toInt; omega) (by show (h_i h2 1 33).toInt ≤ 179; omega)
      refine ⟨s1, s2, s3, ?_, fun y => absurd e y, fun _ => ⟨?_, fun _ => ?_⟩⟩
      · rw [s4]; show (h_i h 1 33).toInt + 1 ≤ (h_i h2 1 33).toInt + 1; omega
      · rw [s4]; show (h_i h2 1 33).toInt + 1 ≤ (h_i h 1 32).toInt + 1; omega
      · rw [s4]; show (h_i h2 1 33).toInt + 1 ≤ (h_i h 1 32).toInt; omega
    · refine Cv.mono (c_bad d I2) (fun h3 k => ?_)
      have f3 : h_i h3 1 33 = h_i h2 1 33 := (k.2.1.2 1 33 (by decide +kernel)).1
      have f5 : h_i h3 1 35 = h_i h 1 35 := (k.2.1.2 1 35 (by decide +kernel)).1.trans e5
      obtain ⟨s1, s2, s3, s4, s5⟩ := st h3 k.1 (F2'.tr (k.2.1.more (by decide +kernel))) f5 (by show 0 ≤ (h_i h3 1 33).toInt; rw [f3]; omega) (by show (h_i h3 1 33).toInt ≤ 179; rw [f3]; omega)
      refine ⟨k.1.1, s1, s2, s3, ?_, fun y => absurd e y, fun _ => ⟨?_, fun y => absurd (s5.symm.trans y) k.2.2⟩⟩
      · rw [s4]; show (h_i h 1 33).toInt + 1 ≤ (h_i h3 1 33).toInt + 1; rw [f3]; omega
      · rw [s4]; show (h_i h3 1 33).toInt + 1 ≤ (h_i h 1 32).toInt + 1; rw [f3]; omega
end
section
/-! codes of told sums: put together -/
theorem prun_cat {s : Nat} {cd : Nat → Int32} : ∀ {f i n j m g k l : Nat}, prun s cd f i n j m → prun s cd g j m k l → prun s cd (f + g) i n k l
  | 0, i, n, j, m, g, k, l, a, b => by
    obtain ⟨e1, e2⟩ := a
    subst e1 e2
    rw [Nat.zero_add]; exact b
  | f + 1, i, n, j, m, g, k, l, a, b => by
    obtain ⟨i', n', h1, h2⟩ := a
    rw [Nat.add_right_comm]
    exact ⟨i', n', h1, prun_cat h2 b⟩
/-- from i to j the codes raise the pile by one, by k at most between -/
def PR (s : Nat) (cd : Nat → Int32) (i j k : Nat) : Prop := ∃ g, ∀ n, n + k ≤ 199 → prun s cd g i n j (n + 1)
theorem PR.num {s : Nat} {cd : Nat → Int32} {i : Nat} (h : cd i = 0) : PR s cd i (i + 2) 1 := ⟨1, fun n hn => ⟨i + 2, n + 1, by unfold pst; rw [if_pos h, if_pos (by omega)], rfl, rfl⟩⟩
theorem PR.let_ {s : Nat} {cd : Nat → Int32} {i : Nat} (h : cd i = 1) (o : okl s (cd (i + 1)) = true) : PR s cd i (i + 2) 1 := ⟨1, fun n hn => ⟨i + 2, n + 1, by unfold pst; rw [if_neg (by rw [h]; decide), if_pos h, if_pos ⟨by omega, o⟩], rfl, rfl⟩⟩
theorem PR.not_ {s : Nat} {cd : Nat → Int32} {i j k : Nat} (a : PR s cd i j k) (h : cd j = 33) : PR s cd i (j + 1) k := by
  obtain ⟨g, hg⟩ := a
  refine ⟨g + 1, fun n hn => prun_cat (hg n hn) ⟨j + 1, n + 1, ?_, rfl, rfl⟩⟩
  unfold pst
  rw [if_neg (by rw [h]; decide), if_neg (by rw [h]; decide), if_pos h, if_pos (by omega)]
def opc (c : Int32) : Bool := !(decide (c = 0) || decide (c = 1) || decide (c = 33) || decide (c = 2) || decide (c = 3))
theorem PR.bin {s : Nat} {cd : Nat → Int32} {i j m k1 k2 K : Nat} (a : PR s cd i j k1) (b : PR s cd j m k2) (h : opc (cd m) = true) (l1 : k1 ≤ K) (l2 : k2 + 1 ≤ K) : PR s cd i (m + 1) K := by
  obtain ⟨g1, h1⟩ := a
  obtain ⟨g2, h2⟩ := b
  refine ⟨g1 + g2 + 1, fun n hn => prun_cat (prun_cat (h1 n (by omega)) (h2 (n + 1) (by omega))) ⟨m + 1, n + 1, ?_, rfl, rfl⟩⟩
  unfold opc at h
  rw [Bool.not_eq_true', Bool.or_eq_false_iff, Bool.or_eq_false_iff, Bool.or_eq_false_iff, Bool.or_eq_false_iff, decide_eq_false_iff_not, decide_eq_false_iff_not, decide_eq_false_iff_not, decide_eq_false_iff_not, decide_eq_false_iff_not] at h
  unfold pst
  rw [if_neg h.1.1.1.1, if_neg h.1.1.1.2, if_neg h.1.1.2, if_neg (fun z => z.elim h.1.2 h.2), if_pos (by omega)]
  rfl
theorem PR.more {s : Nat} {cd : Nat → Int32} {i j k K : Nat} (a : PR s cd i j k) (l : k ≤ K) : PR s cd i j K := by
  obtain ⟨g, hg⟩ := a
  exact ⟨g, fun n hn => hg n (by omega)⟩
theorem pst_sh {s : Nat} {cd cd' : Nat → Int32} {i n t : Nat} {q : Nat × Nat} (e0 : cd' (i + t) = cd i) (e1 : cd i = 1 → cd' (i + t + 1) = cd (i + 1)) (h : pst s cd i n = some q) : pst s cd' (i + t) n = some (q.1 + t, q.2) := by
  obtain ⟨i', n'⟩ := q
  rcases pst_0 h with ⟨c, q1, q2, q3⟩ | ⟨c, q1, qk, q2, q3⟩ | ⟨c, q1, q2, q3⟩ | ⟨c, q1, q2, q3⟩
  · subst q2 q3
    unfold pst
    rw [e0, if_pos c, if_pos q1, Nat.add_right_comm]
  · subst q2 q3
    unfold pst
    rw [e0, e1 c, if_neg (by rw [c]; decide), if_pos c, if_pos ⟨q1, qk⟩, Nat.add_right_comm]
  · subst q2 q3
    unfold pst
    rw [e0, if_neg (by rw [c]; decide), if_neg (by rw [c]; decide), if_pos c, if_pos q1, Nat.add_right_comm]
  · subst q2 q3
    unfold pst
    rw [e0, if_neg c.1, if_neg c.2.1, if_neg c.2.2.1, if_neg (fun z => z.elim c.2.2.2.1 c.2.2.2.2), if_pos q1, Nat.add_right_comm]
theorem pst_1 {s : Nat} {cd : Nat → Int32} {i n i' n' : Nat} (h : pst s cd i n = some (i', n')) (c : cd i = 1) : i' = i + 2 := by
  rcases pst_0 h with ⟨q, _⟩ | ⟨_, _, _, q2, _⟩ | ⟨q, _⟩ | ⟨q, _⟩
  · rw [c] at q; exact absurd q (by decide)
  · exact q2
  · rw [c] at q; exact absurd q (by decide)
  · exact absurd c q.2.1
theorem prun_sh {s : Nat} {cd cd' : Nat → Int32} {t : Nat} : ∀ {g i n j m : Nat}, (∀ x, i ≤ x → x < j → cd' (x + t) = cd x) → prun s cd g i n j m → prun s cd' g (i + t) n (j + t) m
  | 0, _, _, _, _, _, h => ⟨by rw [h.1], h.2⟩
  | g + 1, i, n, j, m, e, h => by
    obtain ⟨i', n', h1, h2⟩ := h
    have l1 := pst_le h1
    have l2 := prun_le h2
    refine ⟨i' + t, n', ?_, prun_sh (fun x a b => e x (by omega) b) h2⟩
    refine pst_sh (q := (i', n')) (e i (Nat.le_refl _) (by omega)) (fun c => ?_) h1
    have := pst_1 h1 c
    rw [show i + t + 1 = (i + 1) + t by omega]
    exact e (i + 1) (by omega) (by omega)
theorem PR.sh {s : Nat} {cd cd' : Nat → Int32} {t i j k : Nat} (e : ∀ x, i ≤ x → x < j → cd' (x + t) = cd x) (a : PR s cd i j k) : PR s cd' (i + t) (j + t) k := by
  obtain ⟨g, hg⟩ := a
  exact ⟨g, fun n hn => prun_sh e (hg n hn)⟩
theorem PR.same {s : Nat} {cd cd' : Nat → Int32} {i j k : Nat} (e : ∀ x, i ≤ x → x < j → cd' x = cd x) (a : PR s cd i j k) : PR s cd' i j k := PR.sh (t := 0) e a
theorem PR.ex {s : Nat} {cd : Nat → Int32} {i j k : Nat} (a : PR s cd i j k) (l : k ≤ 199) : ∃ g, prun s cd g i 0 j 1 := by
  obtain ⟨g, hg⟩ := a
  exact ⟨g, hg 0 (by omega)⟩
end
section
theorem t_X12_atom (d : Nat) (h : Hp_) (w : Wf h)  (K : Hp_ → Prop) (k : Ci (m_X12_look (d + 0) 0 0) [.ref 1] h (fun r3 h1 => Wf h1 ∧ ((¬ r3 = 91 → Ci (m_X12_isLetter (d + 0) 0 0) [.int r3, .int (h_i h1 1 37)] h1 (fun r7 h5 => Wf h5 ∧ ((r7 = 0 → Ci (m_X12_number (d + 1) 0 0) [.ref 1] h5 (fun r11 h9 => Wf h9 ∧ (Cv (m_X12_say (d + 0) 0 0) [.ref 1, .int 0] h9 (fun h12 => Wf h12 ∧ (Cv (m_X12_say (d + 0) 0 0) [.ref 1, .int r11] h12 (fun h15 => Wf h15 ∧ (K h15))))))) ∧ (¬ r7 = 0 → Cv (m_X12_say (d + 0) 0 0) [.ref 1, .int 1] (h_im h5 1 33 ((h_i h5 1 33) + 1)) (fun h18 => Wf h18 ∧ (Cv (m_X12_say (d + 0) 0 0) [.ref 1, .int r3] h18 (fun h21 => Wf h21 ∧ (K h21)))))))) ∧ (r3 = 91 → Ci (m_X12_opens (d + 1) 0 0) [.ref 1] h1 (fun r26 h24 => Wf h24 ∧ ((r26 = 0 → K h24) ∧ (¬ r26 = 0 → Cv (m_X12_sum (d + 53) 0 0) [.ref 1] h24 (fun h28 => Wf h28 ∧ (Cv (m_X12_closes (d + 1) 0 0) [.ref 1, .int 93] h28 (fun h31 => Wf h31 ∧ (K h31))))))))))) : Cv (m_X12_atom (d + 61) 0 0) [.ref 1] h K := by
  refine Ct.of (fun _ _ _ => trivial) rfl (Nat.le_of_ble_eq_true rfl) ?_
  show AW (m_X12_atom (d + 61) 0 0) 0 0 0 [(0, .ref 1)] [] h (kV K)
  refine aw_aload_n (i := 0) rfl d_X12_atom_0 0 rfl ?_
  refine aw_Vi 1 [] [] d_X12_atom_1 (cV_X12_look (d + 0) 0 0) kc_12 (ws_1 w) tw_2206 rfl (rr0 (Nat.le_of_ble_eq_true rfl) (Nat.le_of_ble_eq_true rfl)) (Nat.le_of_ble_eq_true rfl) xs0 k (fun r3 h1 kk => ?_)
  obtain ⟨w2, k⟩ := kk
  refine aw_istore_n (i := 1) rfl [(0, .ref 1), (1, .int r3)] d_X12_atom_4 (Nat.le_of_ble_eq_true rfl) rfl rfl ?_
  refine aw_iload_n (i := 1) rfl d_X12_atom_5 1 rfl ?_
  refine aw_bipush (v := 91) d_X12_atom_6 ib_91 ?_
  refine aw_icmp_ne (tgt := 31) d_X12_atom_8 rfl (fun c4 => ?_) (fun c4 => ?_)
  · have k := k.1 c4
    refine aw_iload_n (i := 1) rfl d_X12_atom_31 1 rfl ?_
    refine aw_aload_n (i := 0) rfl d_X12_atom_32 0 rfl ?_
    refine aw_geti (k0 := 37) kc_12 (ws_1 w2) (Nat.le_of_ble_eq_true rfl) tw_1779 d_X12_atom_33 rfl ?_
    refine aw_Si [.int r3, .int (h_i h1 1 37)] [] d_X12_atom_36 (cS_X12_isLetter (d + 0) 0 0) tw_2268 rfl (rr0 (Nat.le_of_ble_eq_true rfl) (Nat.le_of_ble_eq_true rfl)) (Nat.le_of_ble_eq_true rfl) xs0 k (fun r7 h5 kk => ?_)
    obtain ⟨w6, k⟩ := kk
    refine aw_if_eq (tgt := 65) d_X12_atom_39 rfl (fun c8 => ?_) (fun c8 => ?_)
    · have k := k.1 c8
      refine aw_aload_n (i := 0) rfl d_X12_atom_65 0 rfl ?_
      refine aw_Vi 1 [] [] d_X12_atom_66 (cV_X12_number (d + 1) 0 0) kc_12 (ws_1 w6) tw_2218 rfl (rr0 (Nat.le_of_ble_eq_true rfl) (Nat.le_of_ble_eq_true rfl)) (Nat.le_of_ble_eq_true rfl) xs0 k (fun r11 h9 kk => ?_)
      obtain ⟨w10, k⟩ := kk
      refine aw_istore_n (i := 2) rfl [(0, .ref 1), (1, .int r3), (2, .int r11)] d_X12_atom_69 (Nat.le_of_ble_eq_true rfl) rfl rfl ?_
      refine aw_aload_n (i := 0) rfl d_X12_atom_70 0 rfl ?_
      refine aw_iconst (v := 0) d_X12_atom_71 ic_0 ?_
      refine aw_Vv 1 [.int 0] [] d_X12_atom_72 (cV_X12_say (d + 0) 0 0) kc_12 (ws_1 w10) tw_2210 rfl (rr0 (Nat.le_of_ble_eq_true rfl) (Nat.le_of_ble_eq_true rfl)) (Nat.le_of_ble_eq_true rfl) xs0 k (fun h12 kk => ?_)
      obtain ⟨w13, k⟩ := kk
      refine aw_aload_n (i := 0) rfl d_X12_atom_75 0 rfl ?_
      refine aw_iload_n (i := 2) rfl d_X12_atom_76 2 rfl ?_
      refine aw_Vv 1 [.int r11] [] d_X12_atom_77 (cV_X12_say (d + 0) 0 0) kc_12 (ws_1 w13) tw_2210 rfl (rr0 (Nat.le_of_ble_eq_true rfl) (Nat.le_of_ble_eq_true rfl)) (Nat.le_of_ble_eq_true rfl) xs0 k (fun h15 kk => ?_)
      obtain ⟨w16, k⟩ := kk
      exact aw_vret rfl d_X12_atom_80 ⟨Nat.le_refl _, Nat.le_refl _⟩ ⟨rfl, k⟩
    · have k := k.2 c8
      refine aw_aload_n (i := 0) rfl d_X12_atom_42 0 rfl ?_
      refine aw_dup d_X12_atom_43 rfl ?_
      refine aw_geti (k0 := 33) kc_12 (ws_1 w6) (Nat.le_of_ble_eq_true rfl) tw_1775 d_X12_atom_44 rfl ?_
      refine aw_iconst (v := 1) d_X12_atom_47 ic_1 ?_
      refine aw_iadd d_X12_atom_48 ?_
      refine aw_puti (k0 := 33) kc_12 (ws_1 w6) (Nat.le_of_ble_eq_true rfl) tw_1775 d_X12_atom_49 rfl rfl nf_i ?_
      refine aw_aload_n (i := 0) rfl d_X12_atom_52 0 rfl ?_
      refine aw_iconst (v := 1) d_X12_atom_53 ic_1 ?_
      refine aw_Vv 1 [.int 1] [] d_X12_atom_54 (cV_X12_say (d + 0) 0 0) kc_12 (ws_1 w6) tw_2210 rfl (rr0 (Nat.le_of_ble_eq_true rfl) (Nat.le_of_ble_eq_true rfl)) (Nat.le_of_ble_eq_true rfl) xs0 k (fun h18 kk => ?_)
      obtain ⟨w19, k⟩ := kk
      refine aw_aload_n (i := 0) rfl d_X12_atom_57 0 rfl ?_
      refine aw_iload_n (i := 1) rfl d_X12_atom_58 1 rfl ?_
      refine aw_Vv 1 [.int r3] [] d_X12_atom_59 (cV_X12_say (d + 0) 0 0) kc_12 (ws_1 w19) tw_2210 rfl (rr0 (Nat.le_of_ble_eq_true rfl) (Nat.le_of_ble_eq_true rfl)) (Nat.le_of_ble_eq_true rfl) xs0 k (fun h21 kk => ?_)
      obtain ⟨w22, k⟩ := kk
      refine aw_goto (tgt := 80) d_X12_atom_62 rfl ?_
      exact aw_vret rfl d_X12_atom_80 ⟨Nat.le_refl _, Nat.le_refl _⟩ ⟨rfl, k⟩
  · have k := k.2 c4
    refine aw_aload_n (i := 0) rfl d_X12_atom_11 0 rfl ?_
    refine aw_Vi 1 [] [] d_X12_atom_12 (cV_X12_opens (d + 1) 0 0) kc_12 (ws_1 w2) tw_2260 rfl (rr0 (Nat.le_of_ble_eq_true rfl) (Nat.le_of_ble_eq_true rfl)) (Nat.le_of_ble_eq_true rfl) xs0 k (fun r26 h24 kk => ?_)
    obtain ⟨w25, k⟩ := kk
    refine aw_if_eq (tgt := 80) d_X12_atom_15 rfl (fun c27 => ?_) (fun c27 => ?_)
    · have k := k.1 c27
      exact aw_vret rfl d_X12_atom_80 ⟨Nat.le_refl _, Nat.le_refl _⟩ ⟨rfl, k⟩
    · have k := k.2 c27
      refine aw_aload_n (i := 0) rfl d_X12_atom_18 0 rfl ?_
      refine aw_Vv 1 [] [] d_X12_atom_19 (cV_X12_sum (d + 53) 0 0) kc_12 (ws_1 w25) tw_2248 rfl (rr0 (Nat.le_of_ble_eq_true rfl) (Nat.le_of_ble_eq_true rfl)) (Nat.le_of_ble_eq_true rfl) xs0 k (fun h28 kk => ?_)
      obtain ⟨w29, k⟩ := kk
      refine aw_aload_n (i := 0) rfl d_X12_atom_22 0 rfl ?_
      refine aw_bipush (v := 93) d_X12_atom_23 ib_93 ?_
      refine aw_Vv 1 [.int 93] [] d_X12_atom_25 (cV_X12_closes (d + 1) 0 0) kc_12 (ws_1 w29) tw_2264 rfl (rr0 (Nat.le_of_ble_eq_true rfl) (Nat.le_of_ble_eq_true rfl)) (Nat.le_of_ble_eq_true rfl) xs0 k (fun h31 kk => ?_)
      obtain ⟨w32, k⟩ := kk
      refine aw_goto (tgt := 80) d_X12_atom_28 rfl ?_
      exact aw_vret rfl d_X12_atom_80 ⟨Nat.le_refl _, Nat.le_refl _⟩ ⟨rfl, k⟩
theorem t_X12_term (d : Nat) (h : Hp_) (w : Wf h)  (K : Hp_ → Prop) (k : Cv (m_X12_atom (d + 51) 0 0) [.ref 1] h (fun h1 => Wf h1 ∧ (AW (m_X12_term (d + 52) 0 0) 0 0 4 [(0, .ref 1)] [] h1 (kV K)))) : Cv (m_X12_term (d + 52) 0 0) [.ref 1] h K := by
  refine Ct.of (fun _ _ _ => trivial) rfl (Nat.le_of_ble_eq_true rfl) ?_
  show AW (m_X12_term (d + 52) 0 0) 0 0 0 [(0, .ref 1)] [] h (kV K)
  refine aw_aload_n (i := 0) rfl d_X12_term_0 0 rfl ?_
  refine aw_Vv 1 [] [] d_X12_term_1 (cV_X12_atom (d + 51) 0 0) kc_12 (ws_1 w) tw_2256 rfl (rr0 (Nat.le_of_ble_eq_true rfl) (Nat.le_of_ble_eq_true rfl)) (Nat.le_of_ble_eq_true rfl) xs0 k (fun h1 kk => ?_)
  obtain ⟨w2, k⟩ := kk
  exact k
theorem t_X12_term_4 (d : Nat) (h : Hp_) (w : Wf h)  (K : Hp_ → Prop) (k : (¬ (h_i h 1 34) = (-1) → K h) ∧ ((h_i h 1 34) = (-1) → Ci (m_X12_look (d + 0) 0 0) [.ref 1] h (fun r7 h5 => Wf h5 ∧ ((¬ r7 = 42 → K h5) ∧ (r7 = 42 → Cv (m_X12_atom (d + 51) 0 0) [.ref 1] (h_im h5 1 33 ((h_i h5 1 33) + 1)) (fun h9 => Wf h9 ∧ (Cv (m_X12_say (d + 0) 0 0) [.ref 1, .int 42] h9 (fun h12 => Wf h12 ∧ (AW (m_X12_term (d + 52) 0 0) 0 0 4 [(0, .ref 1)] [] h12 (kV K)))))))))) : AW (m_X12_term (d + 52) 0 0) 0 0 4 [(0, .ref 1)] [] h (kV K) := by
  refine aw_aload_n (i := 0) rfl d_X12_term_4 0 rfl ?_
  refine aw_geti (k0 := 34) kc_12 (ws_1 w) (Nat.le_of_ble_eq_true rfl) tw_1776 d_X12_term_5 rfl ?_
  refine aw_iconst (v := (-1)) d_X12_term_8 ic_m1 ?_
  refine aw_icmp_ne (tgt := 44) d_X12_term_9 rfl (fun c4 => ?_) (fun c4 => ?_)
  · have k := k.1 c4
    exact aw_vret rfl d_X12_term_44 ⟨Nat.le_refl _, Nat.le_refl _⟩ ⟨rfl, k⟩
  · have k := k.2 c4
    refine aw_aload_n (i := 0) rfl d_X12_term_12 0 rfl ?_
    refine aw_Vi 1 [] [] d_X12_term_13 (cV_X12_look (d + 0) 0 0) kc_12 (ws_1 w) tw_2206 rfl (rr0 (Nat.le_of_ble_eq_true rfl) (Nat.le_of_ble_eq_true rfl)) (Nat.le_of_ble_eq_true rfl) xs0 k (fun r7 h5 kk => ?_)
    obtain ⟨w6, k⟩ := kk
    refine aw_bipush (v := 42) d_X12_term_16 ib_42 ?_
    refine aw_icmp_ne (tgt := 44) d_X12_term_18 rfl (fun c8 => ?_) (fun c8 => ?_)
    · have k := k.1 c8
      exact aw_vret rfl d_X12_term_44 ⟨Nat.le_refl _, Nat.le_refl _⟩ ⟨rfl, k⟩
    · have k := k.2 c8
      refine aw_aload_n (i := 0) rfl d_X12_term_21 0 rfl ?_
      refine aw_dup d_X12_term_22 rfl ?_
      refine aw_geti (k0 := 33) kc_12 (ws_1 w6) (Nat.le_of_ble_eq_true rfl) tw_1775 d_X12_term_23 rfl ?_
      refine aw_iconst (v := 1) d_X12_term_26 ic_1 ?_
      refine aw_iadd d_X12_term_27 ?_
      refine aw_puti (k0 := 33) kc_12 (ws_1 w6) (Nat.le_of_ble_eq_true rfl) tw_1775 d_X12_term_28 rfl rfl nf_i ?_
      refine aw_aload_n (i := 0) rfl d_X12_term_31 0 rfl ?_
      refine aw_Vv 1 [] [] d_X12_term_32 (cV_X12_atom (d + 51) 0 0) kc_12 (ws_1 w6) tw_2256 rfl (rr0 (Nat.le_of_ble_eq_true rfl) (Nat.le_of_ble_eq_true rfl)) (Nat.le_of_ble_eq_true rfl) xs0 k (fun h9 kk => ?_)
      obtain ⟨w10, k⟩ := kk
      refine aw_aload_n (i := 0) rfl d_X12_term_35 0 rfl ?_
      refine aw_bipush (v := 42) d_X12_term_36 ib_42 ?_
      refine aw_Vv 1 [.int 42] [] d_X12_term_38 (cV_X12_say (d + 0) 0 0) kc_12 (ws_1 w10) tw_2210 rfl (rr0 (Nat.le_of_ble_eq_true rfl) (Nat.le_of_ble_eq_true rfl)) (Nat.le_of_ble_eq_true rfl) xs0 k (fun h12 kk => ?_)
      obtain ⟨w13, k⟩ := kk
      refine aw_goto (tgt := 4) d_X12_term_41 rfl ?_
      exact k
theorem t_X12_sum (d : Nat) (h : Hp_) (w : Wf h)  (K : Hp_ → Prop) (k : Cv (m_X12_term (d + 52) 0 0) [.ref 1] h (fun h1 => Wf h1 ∧ (Ci (m_X12_look (d + 0) 0 0) [.ref 1] h1 (fun r6 h4 => Wf h4 ∧ (AW (m_X12_sum (d + 53) 0 0) 0 0 9 [(0, .ref 1), (1, .int r6)] [] h4 (kV K)))))) : Cv (m_X12_sum (d + 53) 0 0) [.ref 1] h K := by
  refine Ct.of (fun _ _ _ => trivial) rfl (Nat.le_of_ble_eq_true rfl) ?_
  show AW (m_X12_sum (d + 53) 0 0) 0 0 0 [(0, .ref 1)] [] h (kV K)
  refine aw_aload_n (i := 0) rfl d_X12_sum_0 0 rfl ?_
  refine aw_Vv 1 [] [] d_X12_sum_1 (cV_X12_term (d + 52) 0 0) kc_12 (ws_1 w) tw_2252 rfl (rr0 (Nat.le_of_ble_eq_true rfl) (Nat.le_of_ble_eq_true rfl)) (Nat.le_of_ble_eq_true rfl) xs0 k (fun h1 kk => ?_)
  obtain ⟨w2, k⟩ := kk
  refine aw_aload_n (i := 0) rfl d_X12_sum_4 0 rfl ?_
  refine aw_Vi 1 [] [] d_X12_sum_5 (cV_X12_look (d + 0) 0 0) kc_12 (ws_1 w2) tw_2206 rfl (rr0 (Nat.le_of_ble_eq_true rfl) (Nat.le_of_ble_eq_true rfl)) (Nat.le_of_ble_eq_true rfl) xs0 k (fun r6 h4 kk => ?_)
  obtain ⟨w5, k⟩ := kk
  refine aw_istore_n (i := 1) rfl [(0, .ref 1), (1, .int r6)] d_X12_sum_8 (Nat.le_of_ble_eq_true rfl) rfl rfl ?_
  exact k
theorem t_X12_sum_9 (d : Nat) (h : Hp_) (w : Wf h) (x1 : Int32) (K : Hp_ → Prop) (k : (¬ (h_i h 1 34) = (-1) → K h) ∧ ((h_i h 1 34) = (-1) → (x1 = 43 → Cv (m_X12_term (d + 52) 0 0) [.ref 1] (h_im h 1 33 ((h_i h 1 33) + 1)) (fun h9 => Wf h9 ∧ (Cv (m_X12_say (d + 0) 0 0) [.ref 1, .int x1] h9 (fun h12 => Wf h12 ∧ (Ci (m_X12_look (d + 0) 0 0) [.ref 1] h12 (fun r17 h15 => Wf h15 ∧ (AW (m_X12_sum (d + 53) 0 0) 0 0 9 [(0, .ref 1), (1, .int r17)] [] h15 (kV K)))))))) ∧ (¬ x1 = 43 → (¬ x1 = 45 → K h) ∧ (x1 = 45 → Cv (m_X12_term (d + 52) 0 0) [.ref 1] (h_im h 1 33 ((h_i h 1 33) + 1)) (fun h19 => Wf h19 ∧ (Cv (m_X12_say (d + 0) 0 0) [.ref 1, .int x1] h19 (fun h22 => Wf h22 ∧ (Ci (m_X12_look (d + 0) 0 0) [.ref 1] h22 (fun r27 h25 => Wf h25 ∧ (AW (m_X12_sum (d + 53) 0 0) 0 0 9 [(0, .ref 1), (1, .int r27)] [] h25 (kV K))))))))))) : AW (m_X12_sum (d + 53) 0 0) 0 0 9 [(0, .ref 1), (1, .int x1)] [] h (kV K) := by
  refine aw_aload_n (i := 0) rfl d_X12_sum_9 0 rfl ?_
  refine aw_geti (k0 := 34) kc_12 (ws_1 w) (Nat.le_of_ble_eq_true rfl) tw_1776 d_X12_sum_10 rfl ?_
  refine aw_iconst (v := (-1)) d_X12_sum_13 ic_m1 ?_
  refine aw_icmp_ne (tgt := 56) d_X12_sum_14 rfl (fun c7 => ?_) (fun c7 => ?_)
  · have k := k.1 c7
    exact aw_vret rfl d_X12_sum_56 ⟨Nat.le_refl _, Nat.le_refl _⟩ ⟨rfl, k⟩
  · have k := k.2 c7
    refine aw_iload_n (i := 1) rfl d_X12_sum_17 1 rfl ?_
    refine aw_bipush (v := 43) d_X12_sum_18 ib_43 ?_
    refine aw_icmp_eq (tgt := 29) d_X12_sum_20 rfl (fun c8 => ?_) (fun c8 => ?_)
    · have k := k.1 c8
      refine aw_aload_n (i := 0) rfl d_X12_sum_29 0 rfl ?_
      refine aw_dup d_X12_sum_30 rfl ?_
      refine aw_geti (k0 := 33) kc_12 (ws_1 w) (Nat.le_of_ble_eq_true rfl) tw_1775 d_X12_sum_31 rfl ?_
      refine aw_iconst (v := 1) d_X12_sum_34 ic_1 ?_
      refine aw_iadd d_X12_sum_35 ?_
      refine aw_puti (k0 := 33) kc_12 (ws_1 w) (Nat.le_of_ble_eq_true rfl) tw_1775 d_X12_sum_36 rfl rfl nf_i ?_
      refine aw_aload_n (i := 0) rfl d_X12_sum_39 0 rfl ?_
      refine aw_Vv 1 [] [] d_X12_sum_40 (cV_X12_term (d + 52) 0 0) kc_12 (ws_1 w) tw_2252 rfl (rr0 (Nat.le_of_ble_eq_true rfl) (Nat.le_of_ble_eq_true rfl)) (Nat.le_of_ble_eq_true rfl) xs0 k (fun h9 kk => ?_)
      obtain ⟨w10, k⟩ := kk
      refine aw_aload_n (i := 0) rfl d_X12_sum_43 0 rfl ?_
      refine aw_iload_n (i := 1) rfl d_X12_sum_44 1 rfl ?_
      refine aw_Vv 1 [.int x1] [] d_X12_sum_45 (cV_X12_say (d + 0) 0 0) kc_12 (ws_1 w10) tw_2210 rfl (rr0 (Nat.le_of_ble_eq_true rfl) (Nat.le_of_ble_eq_true rfl)) (Nat.le_of_ble_eq_true rfl) xs0 k (fun h12 kk => ?_)
      obtain ⟨w13, k⟩ := kk
      refine aw_aload_n (i := 0) rfl d_X12_sum_48 0 rfl ?_
      refine aw_Vi 1 [] [] d_X12_sum_49 (cV_X12_look (d + 0) 0 0) kc_12 (ws_1 w13) tw_2206 rfl (rr0 (Nat.le_of_ble_eq_true rfl) (Nat.le_of_ble_eq_true rfl)) (Nat.le_of_ble_eq_true rfl) xs0 k (fun r17 h15 kk => ?_)
      obtain ⟨w16, k⟩ := kk
      refine aw_istore_n (i := 1) rfl [(0, .ref 1), (1, .int r17)] d_X12_sum_52 (Nat.le_of_ble_eq_true rfl) rfl rfl ?_
      refine aw_goto (tgt := 9) d_X12_sum_53 rfl ?_
      exact k
    · have k := k.2 c8
      refine aw_iload_n (i := 1) rfl d_X12_sum_23 1 rfl ?_
      refine aw_bipush (v := 45) d_X12_sum_24 ib_45 ?_
      refine aw_icmp_ne (tgt := 56) d_X12_sum_26 rfl (fun c18 => ?_) (fun c18 => ?_)
      · have k := k.1 c18
        exact aw_vret rfl d_X12_sum_56 ⟨Nat.le_refl _, Nat.le_refl _⟩ ⟨rfl, k⟩
      · have k := k.2 c18
        refine aw_aload_n (i := 0) rfl d_X12_sum_29 0 rfl ?_
        refine aw_dup d_X12_sum_30 rfl ?_
        refine aw_geti (k0 := 33) kc_12 (ws_1 w) (Nat.le_of_ble_eq_true rfl) tw_1775 d_X12_sum_31 rfl ?_
        refine aw_iconst (v := 1) d_X12_sum_34 ic_1 ?_
        refine aw_iadd d_X12_sum_35 ?_
        refine aw_puti (k0 := 33) kc_12 (ws_1 w) (Nat.le_of_ble_eq_true rfl) tw_1775 d_X12_sum_36 rfl rfl nf_i ?_
        refine aw_aload_n (i := 0) rfl d_X12_sum_39 0 rfl ?_
        refine aw_Vv 1 [] [] d_X12_sum_40 (cV_X12_term (d + 52) 0 0) kc_12 (ws_1 w) tw_2252 rfl (rr0 (Nat.le_of_ble_eq_true rfl) (Nat.le_of_ble_eq_true rfl)) (Nat.le_of_ble_eq_true rfl) xs0 k (fun h19 kk => ?_)
        obtain ⟨w20, k⟩ := kk
        refine aw_aload_n (i := 0) rfl d_X12_sum_43 0 rfl ?_
        refine aw_iload_n (i := 1) rfl d_X12_sum_44 1 rfl ?_
        refine aw_Vv 1 [.int x1] [] d_X12_sum_45 (cV_X12_say (d + 0) 0 0) kc_12 (ws_1 w20) tw_2210 rfl (rr0 (Nat.le_of_ble_eq_true rfl) (Nat.le_of_ble_eq_true rfl)) (Nat.le_of_ble_eq_true rfl) xs0 k (fun h22 kk => ?_)
        obtain ⟨w23, k⟩ := kk
        refine aw_aload_n (i := 0) rfl d_X12_sum_48 0 rfl ?_
        refine aw_Vi 1 [] [] d_X12_sum_49 (cV_X12_look (d + 0) 0 0) kc_12 (ws_1 w23) tw_2206 rfl (rr0 (Nat.le_of_ble_eq_true rfl) (Nat.le_of_ble_eq_true rfl)) (Nat.le_of_ble_eq_true rfl) xs0 k (fun r27 h25 kk => ?_)
        obtain ⟨w26, k⟩ := kk
        refine aw_istore_n (i := 1) rfl [(0, .ref 1), (1, .int r27)] d_X12_sum_52 (Nat.le_of_ble_eq_true rfl) rfl rfl ?_
        refine aw_goto (tgt := 9) d_X12_sum_53 rfl ?_
        exact k
theorem t_X12_compare (d : Nat) (h : Hp_) (w : Wf h)  (K : Hp_ → Prop) (k : (¬ (h_i h 1 34) = (-1) → Ci (m_X12_isSign (d + 0) 0 0) [.int (-1)] h (fun r4 h2 => Wf h2 ∧ ((¬ r4 = 0 → Cv (m_X12_sum (d + 53) 0 0) [.ref 1] (h_im h2 1 33 ((h_i h2 1 33) + 1)) (fun h6 => Wf h6 ∧ (Cv (m_X12_say (d + 0) 0 0) [.ref 1, .int (-1)] h6 (fun h9 => Wf h9 ∧ (K h9))))) ∧ (r4 = 0 → Cv (m_X12_bad (d + 0) 0 0) [.ref 1] h2 (fun h12 => Wf h12 ∧ (K h12)))))) ∧ ((h_i h 1 34) = (-1) → Ci (m_X12_look (d + 0) 0 0) [.ref 1] h (fun r17 h15 => Wf h15 ∧ (Ci (m_X12_isSign (d + 0) 0 0) [.int r17] h15 (fun r20 h18 => Wf h18 ∧ ((¬ r20 = 0 → Cv (m_X12_sum (d + 53) 0 0) [.ref 1] (h_im h18 1 33 ((h_i h18 1 33) + 1)) (fun h22 => Wf h22 ∧ (Cv (m_X12_say (d + 0) 0 0) [.ref 1, .int r17] h22 (fun h25 => Wf h25 ∧ (K h25))))) ∧ (r20 = 0 → Cv (m_X12_bad (d + 0) 0 0) [.ref 1] h18 (fun h28 => Wf h28 ∧ (K h28))))))))) : Cv (m_X12_compare (d + 54) 0 0) [.ref 1] h K := by
  refine Ct.of (fun _ _ _ => trivial) rfl (Nat.le_of_ble_eq_true rfl) ?_
  show AW (m_X12_compare (d + 54) 0 0) 0 0 0 [(0, .ref 1)] [] h (kV K)
  refine aw_aload_n (i := 0) rfl d_X12_compare_0 0 rfl ?_
  refine aw_geti (k0 := 34) kc_12 (ws_1 w) (Nat.le_of_ble_eq_true rfl) tw_1776 d_X12_compare_1 rfl ?_
  refine aw_iconst (v := (-1)) d_X12_compare_4 ic_m1 ?_
  refine aw_icmp_ne (tgt := 15) d_X12_compare_5 rfl (fun c1 => ?_) (fun c1 => ?_)
  · have k := k.1 c1
    refine aw_iconst (v := (-1)) d_X12_compare_15 ic_m1 ?_
    refine aw_istore_n (i := 1) rfl [(0, .ref 1), (1, .int (-1))] d_X12_compare_16 (Nat.le_of_ble_eq_true rfl) rfl rfl ?_
    refine aw_iload_n (i := 1) rfl d_X12_compare_17 1 rfl ?_
    refine aw_Si [.int (-1)] [] d_X12_compare_18 (cS_X12_isSign (d + 0) 0 0) tw_2245 rfl (rr0 (Nat.le_of_ble_eq_true rfl) (Nat.le_of_ble_eq_true rfl)) (Nat.le_of_ble_eq_true rfl) xs0 k (fun r4 h2 kk => ?_)
    obtain ⟨w3, k⟩ := kk
    refine aw_if_ne (tgt := 29) d_X12_compare_21 rfl (fun c5 => ?_) (fun c5 => ?_)
    · have k := k.1 c5
      refine aw_aload_n (i := 0) rfl d_X12_compare_29 0 rfl ?_
      refine aw_dup d_X12_compare_30 rfl ?_
      refine aw_geti (k0 := 33) kc_12 (ws_1 w3) (Nat.le_of_ble_eq_true rfl) tw_1775 d_X12_compare_31 rfl ?_
      refine aw_iconst (v := 1) d_X12_compare_34 ic_1 ?_
      refine aw_iadd d_X12_compare_35 ?_
      refine aw_puti (k0 := 33) kc_12 (ws_1 w3) (Nat.le_of_ble_eq_true rfl) tw_1775 d_X12_compare_36 rfl rfl nf_i ?_
      refine aw_aload_n (i := 0) rfl d_X12_compare_39 0 rfl ?_
      refine aw_Vv 1 [] [] d_X12_compare_40 (cV_X12_sum (d + 53) 0 0) kc_12 (ws_1 w3) tw_2248 rfl (rr0 (Nat.le_of_ble_eq_true rfl) (Nat.le_of_ble_eq_true rfl)) (Nat.le_of_ble_eq_true rfl) xs0 k (fun h6 kk => ?_)
      obtain ⟨w7, k⟩ := kk
      refine aw_aload_n (i := 0) rfl d_X12_compare_43 0 rfl ?_
      refine aw_iload_n (i := 1) rfl d_X12_compare_44 1 rfl ?_
      refine aw_Vv 1 [.int (-1)] [] d_X12_compare_45 (cV_X12_say (d + 0) 0 0) kc_12 (ws_1 w7) tw_2210 rfl (rr0 (Nat.le_of_ble_eq_true rfl) (Nat.le_of_ble_eq_true rfl)) (Nat.le_of_ble_eq_true rfl) xs0 k (fun h9 kk => ?_)
      obtain ⟨w10, k⟩ := kk
      exact aw_vret rfl d_X12_compare_48 ⟨Nat.le_refl _, Nat.le_refl _⟩ ⟨rfl, k⟩
    · have k := k.2 c5
      refine aw_aload_n (i := 0) rfl d_X12_compare_24 0 rfl ?_
      refine aw_Vv 1 [] [] d_X12_compare_25 (cV_X12_bad (d + 0) 0 0) kc_12 (ws_1 w3) tw_2225 rfl (rr0 (Nat.le_of_ble_eq_true rfl) (Nat.le_of_ble_eq_true rfl)) (Nat.le_of_ble_eq_true rfl) xs0 k (fun h12 kk => ?_)
      obtain ⟨w13, k⟩ := kk
      exact aw_vret rfl d_X12_compare_28 ⟨Nat.le_refl _, Nat.le_refl _⟩ ⟨rfl, k⟩
  · have k := k.2 c1
    refine aw_aload_n (i := 0) rfl d_X12_compare_8 0 rfl ?_
    refine aw_Vi 1 [] [] d_X12_compare_9 (cV_X12_look (d + 0) 0 0) kc_12 (ws_1 w) tw_2206 rfl (rr0 (Nat.le_of_ble_eq_true rfl) (Nat.le_of_ble_eq_true rfl)) (Nat.le_of_ble_eq_true rfl) xs0 k (fun r17 h15 kk => ?_)
    obtain ⟨w16, k⟩ := kk
    refine aw_goto (tgt := 16) d_X12_compare_12 rfl ?_
    refine aw_istore_n (i := 1) rfl [(0, .ref 1), (1, .int r17)] d_X12_compare_16 (Nat.le_of_ble_eq_true rfl) rfl rfl ?_
    refine aw_iload_n (i := 1) rfl d_X12_compare_17 1 rfl ?_
    refine aw_Si [.int r17] [] d_X12_compare_18 (cS_X12_isSign (d + 0) 0 0) tw_2245 rfl (rr0 (Nat.le_of_ble_eq_true rfl) (Nat.le_of_ble_eq_true rfl)) (Nat.le_of_ble_eq_true rfl) xs0 k (fun r20 h18 kk => ?_)
    obtain ⟨w19, k⟩ := kk
    refine aw_if_ne (tgt := 29) d_X12_compare_21 rfl (fun c21 => ?_) (fun c21 => ?_)
    · have k := k.1 c21
      refine aw_aload_n (i := 0) rfl d_X12_compare_29 0 rfl ?_
      refine aw_dup d_X12_compare_30 rfl ?_
      refine aw_geti (k0 := 33) kc_12 (ws_1 w19) (Nat.le_of_ble_eq_true rfl) tw_1775 d_X12_compare_31 rfl ?_
      refine aw_iconst (v := 1) d_X12_compare_34 ic_1 ?_
      refine aw_iadd d_X12_compare_35 ?_
      refine aw_puti (k0 := 33) kc_12 (ws_1 w19) (Nat.le_of_ble_eq_true rfl) tw_1775 d_X12_compare_36 rfl rfl nf_i ?_
      refine aw_aload_n (i := 0) rfl d_X12_compare_39 0 rfl ?_
      refine aw_Vv 1 [] [] d_X12_compare_40 (cV_X12_sum (d + 53) 0 0) kc_12 (ws_1 w19) tw_2248 rfl (rr0 (Nat.le_of_ble_eq_true rfl) (Nat.le_of_ble_eq_true rfl)) (Nat.le_of_ble_eq_true rfl) xs0 k (fun h22 kk => ?_)
      obtain ⟨w23, k⟩ := kk
      refine aw_aload_n (i := 0) rfl d_X12_compare_43 0 rfl ?_
      refine aw_iload_n (i := 1) rfl d_X12_compare_44 1 rfl ?_
      refine aw_Vv 1 [.int r17] [] d_X12_compare_45 (cV_X12_say (d + 0) 0 0) kc_12 (ws_1 w23) tw_2210 rfl (rr0 (Nat.le_of_ble_eq_true rfl) (Nat.le_of_ble_eq_true rfl)) (Nat.le_of_ble_eq_true rfl) xs0 k (fun h25 kk => ?_)
      obtain ⟨w26, k⟩ := kk
      exact aw_vret rfl d_X12_compare_48 ⟨Nat.le_refl _, Nat.le_refl _⟩ ⟨rfl, k⟩
    · have k := k.2 c21
      refine aw_aload_n (i := 0) rfl d_X12_compare_24 0 rfl ?_
      refine aw_Vv 1 [] [] d_X12_compare_25 (cV_X12_bad (d + 0) 0 0) kc_12 (ws_1 w19) tw_2225 rfl (rr0 (Nat.le_of_ble_eq_true rfl) (Nat.le_of_ble_eq_true rfl)) (Nat.le_of_ble_eq_true rfl) xs0 k (fun h28 kk => ?_)
      obtain ⟨w29, k⟩ := kk
      exact aw_vret rfl d_X12_compare_28 ⟨Nat.le_refl _, Nat.le_refl _⟩ ⟨rfl, k⟩
theorem t_X12_unit (d : Nat) (h : Hp_) (w : Wf h)  (K : Hp_ → Prop) (k : Ci (m_X12_look (d + 0) 0 0) [.ref 1] h (fun r3 h1 => Wf h1 ∧ ((¬ r3 = 33 → (¬ r3 = 40 → Cv (m_X12_sum (d + 53) 0 0) [.ref 1] h1 (fun h6 => Wf h6 ∧ (Cv (m_X12_compare (d + 54) 0 0) [.ref 1] h6 (fun h9 => Wf h9 ∧ (K h9))))) ∧ (r3 = 40 → Ci (m_X12_opens (d + 1) 0 0) [.ref 1] h1 (fun r14 h12 => Wf h12 ∧ ((r14 = 0 → K h12) ∧ (¬ r14 = 0 → Cv (m_X12_condition (d + 57) 0 0) [.ref 1, .int 0] h12 (fun h16 => Wf h16 ∧ (Cv (m_X12_closes (d + 1) 0 0) [.ref 1, .int 41] h16 (fun h19 => Wf h19 ∧ (K h19))))))))) ∧ (r3 = 33 → Ci (m_X12_opens (d + 1) 0 0) [.ref 1] h1 (fun r24 h22 => Wf h22 ∧ ((r24 = 0 → K h22) ∧ (¬ r24 = 0 → Cv (m_X12_unit (d + 55) 0 0) [.ref 1] h22 (fun h26 => Wf h26 ∧ (Cv (m_X12_say (d + 0) 0 0) [.ref 1, .int 33] (h_im h26 1 35 ((h_i h26 1 35) - 1)) (fun h29 => Wf h29 ∧ (K h29))))))))))) : Cv (m_X12_unit (d + 65) 0 0) [.ref 1] h K := by
  refine Ct.of (fun _ _ _ => trivial) rfl (Nat.le_of_ble_eq_true rfl) ?_
  show AW (m_X12_unit (d + 65) 0 0) 0 0 0 [(0, .ref 1)] [] h (kV K)
  refine aw_aload_n (i := 0) rfl d_X12_unit_0 0 rfl ?_
  refine aw_Vi 1 [] [] d_X12_unit_1 (cV_X12_look (d + 0) 0 0) kc_12 (ws_1 w) tw_2206 rfl (rr0 (Nat.le_of_ble_eq_true rfl) (Nat.le_of_ble_eq_true rfl)) (Nat.le_of_ble_eq_true rfl) xs0 k (fun r3 h1 kk => ?_)
  obtain ⟨w2, k⟩ := kk
  refine aw_istore_n (i := 1) rfl [(0, .ref 1), (1, .int r3)] d_X12_unit_4 (Nat.le_of_ble_eq_true rfl) rfl rfl ?_
  refine aw_iload_n (i := 1) rfl d_X12_unit_5 1 rfl ?_
  refine aw_bipush (v := 33) d_X12_unit_6 ib_33 ?_
  refine aw_icmp_ne (tgt := 41) d_X12_unit_8 rfl (fun c4 => ?_) (fun c4 => ?_)
  · have k := k.1 c4
    refine aw_iload_n (i := 1) rfl d_X12_unit_41 1 rfl ?_
    refine aw_bipush (v := 40) d_X12_unit_42 ib_40 ?_
    refine aw_icmp_ne (tgt := 68) d_X12_unit_44 rfl (fun c5 => ?_) (fun c5 => ?_)
    · have k := k.1 c5
      refine aw_aload_n (i := 0) rfl d_X12_unit_68 0 rfl ?_
      refine aw_Vv 1 [] [] d_X12_unit_69 (cV_X12_sum (d + 53) 0 0) kc_12 (ws_1 w2) tw_2248 rfl (rr0 (Nat.le_of_ble_eq_true rfl) (Nat.le_of_ble_eq_true rfl)) (Nat.le_of_ble_eq_true rfl) xs0 k (fun h6 kk => ?_)
      obtain ⟨w7, k⟩ := kk
      refine aw_aload_n (i := 0) rfl d_X12_unit_72 0 rfl ?_
      refine aw_Vv 1 [] [] d_X12_unit_73 (cV_X12_compare (d + 54) 0 0) kc_12 (ws_1 w7) tw_2241 rfl (rr0 (Nat.le_of_ble_eq_true rfl) (Nat.le_of_ble_eq_true rfl)) (Nat.le_of_ble_eq_true rfl) xs0 k (fun h9 kk => ?_)
      obtain ⟨w10, k⟩ := kk
      exact aw_vret rfl d_X12_unit_76 ⟨Nat.le_refl _, Nat.le_refl _⟩ ⟨rfl, k⟩
    · have k := k.2 c5
      refine aw_aload_n (i := 0) rfl d_X12_unit_47 0 rfl ?_
      refine aw_Vi 1 [] [] d_X12_unit_48 (cV_X12_opens (d + 1) 0 0) kc_12 (ws_1 w2) tw_2260 rfl (rr0 (Nat.le_of_ble_eq_true rfl) (Nat.le_of_ble_eq_true rfl)) (Nat.le_of_ble_eq_true rfl) xs0 k (fun r14 h12 kk => ?_)
      obtain ⟨w13, k⟩ := kk
      refine aw_if_eq (tgt := 76) d_X12_unit_51 rfl (fun c15 => ?_) (fun c15 => ?_)
      · have k := k.1 c15
        exact aw_vret rfl d_X12_unit_76 ⟨Nat.le_refl _, Nat.le_refl _⟩ ⟨rfl, k⟩
      · have k := k.2 c15
        refine aw_aload_n (i := 0) rfl d_X12_unit_54 0 rfl ?_
        refine aw_iconst (v := 0) d_X12_unit_55 ic_0 ?_
        refine aw_Vv 1 [.int 0] [] d_X12_unit_56 (cV_X12_condition (d + 57) 0 0) kc_12 (ws_1 w13) tw_2233 rfl (rr0 (Nat.le_of_ble_eq_true rfl) (Nat.le_of_ble_eq_true rfl)) (Nat.le_of_ble_eq_true rfl) xs0 k (fun h16 kk => ?_)
        obtain ⟨w17, k⟩ := kk
        refine aw_aload_n (i := 0) rfl d_X12_unit_59 0 rfl ?_
        refine aw_bipush (v := 41) d_X12_unit_60 ib_41 ?_
        refine aw_Vv 1 [.int 41] [] d_X12_unit_62 (cV_X12_closes (d + 1) 0 0) kc_12 (ws_1 w17) tw_2264 rfl (rr0 (Nat.le_of_ble_eq_true rfl) (Nat.le_of_ble_eq_true rfl)) (Nat.le_of_ble_eq_true rfl) xs0 k (fun h19 kk => ?_)
        obtain ⟨w20, k⟩ := kk
        refine aw_goto (tgt := 76) d_X12_unit_65 rfl ?_
        exact aw_vret rfl d_X12_unit_76 ⟨Nat.le_refl _, Nat.le_refl _⟩ ⟨rfl, k⟩
  · have k := k.2 c4
    refine aw_aload_n (i := 0) rfl d_X12_unit_11 0 rfl ?_
    refine aw_Vi 1 [] [] d_X12_unit_12 (cV_X12_opens (d + 1) 0 0) kc_12 (ws_1 w2) tw_2260 rfl (rr0 (Nat.le_of_ble_eq_true rfl) (Nat.le_of_ble_eq_true rfl)) (Nat.le_of_ble_eq_true rfl) xs0 k (fun r24 h22 kk => ?_)
    obtain ⟨w23, k⟩ := kk
    refine aw_if_eq (tgt := 76) d_X12_unit_15 rfl (fun c25 => ?_) (fun c25 => ?_)
    · have k := k.1 c25
      exact aw_vret rfl d_X12_unit_76 ⟨Nat.le_refl _, Nat.le_refl _⟩ ⟨rfl, k⟩
    · have k := k.2 c25
      refine aw_aload_n (i := 0) rfl d_X12_unit_18 0 rfl ?_
      refine aw_Vv 1 [] [] d_X12_unit_19 (cV_X12_unit (d + 55) 0 0) kc_12 (ws_1 w23) tw_2271 rfl (rr0 (Nat.le_of_ble_eq_true rfl) (Nat.le_of_ble_eq_true rfl)) (Nat.le_of_ble_eq_true rfl) xs0 k (fun h26 kk => ?_)
      obtain ⟨w27, k⟩ := kk
      refine aw_aload_n (i := 0) rfl d_X12_unit_22 0 rfl ?_
      refine aw_dup d_X12_unit_23 rfl ?_
      refine aw_geti (k0 := 35) kc_12 (ws_1 w27) (Nat.le_of_ble_eq_true rfl) tw_1777 d_X12_unit_24 rfl ?_
      refine aw_iconst (v := 1) d_X12_unit_27 ic_1 ?_
      refine aw_isub d_X12_unit_28 ?_
      refine aw_puti (k0 := 35) kc_12 (ws_1 w27) (Nat.le_of_ble_eq_true rfl) tw_1777 d_X12_unit_29 rfl rfl nf_i ?_
      refine aw_aload_n (i := 0) rfl d_X12_unit_32 0 rfl ?_
      refine aw_bipush (v := 33) d_X12_unit_33 ib_33 ?_
      refine aw_Vv 1 [.int 33] [] d_X12_unit_35 (cV_X12_say (d + 0) 0 0) kc_12 (ws_1 w27) tw_2210 rfl (rr0 (Nat.le_of_ble_eq_true rfl) (Nat.le_of_ble_eq_true rfl)) (Nat.le_of_ble_eq_true rfl) xs0 k (fun h29 kk => ?_)
      obtain ⟨w30, k⟩ := kk
      refine aw_goto (tgt := 76) d_X12_unit_38 rfl ?_
      exact aw_vret rfl d_X12_unit_76 ⟨Nat.le_refl _, Nat.le_refl _⟩ ⟨rfl, k⟩
theorem t_X12_part (d : Nat) (h : Hp_) (w : Wf h) (x1 : Int32) (K : Hp_ → Prop) (k : (x1 = 0 → Cv (m_X12_unit (d + 55) 0 0) [.ref 1] h (fun h2 => Wf h2 ∧ (AW (m_X12_part (d + 56) 0 0) 0 0 15 [(0, .ref 1)] [] h2 (kV K)))) ∧ (¬ x1 = 0 → Cv (m_X12_compare (d + 54) 0 0) [.ref 1] h (fun h5 => Wf h5 ∧ (AW (m_X12_part (d + 56) 0 0) 0 0 15 [(0, .ref 1)] [] h5 (kV K))))) : Cv (m_X12_part (d + 56) 0 0) [.ref 1, .int x1] h K := by
  refine Ct.of (fun _ _ _ => trivial) rfl (Nat.le_of_ble_eq_true rfl) ?_
  show AW (m_X12_part (d + 56) 0 0) 0 0 0 [(0, .ref 1), (1, .int x1)] [] h (kV K)
  refine aw_iload_n (i := 1) rfl d_X12_part_0 1 rfl ?_
  refine aw_if_eq (tgt := 11) d_X12_part_1 rfl (fun c1 => ?_) (fun c1 => ?_)
  · have k := k.1 c1
    refine aw_aload_n (i := 0) rfl d_X12_part_11 0 rfl ?_
    refine aw_Vv 1 [] [] d_X12_part_12 (cV_X12_unit (d + 55) 0 0) kc_12 (ws_1 w) tw_2271 rfl (rr0 (Nat.le_of_ble_eq_true rfl) (Nat.le_of_ble_eq_true rfl)) (Nat.le_of_ble_eq_true rfl) xs0 k (fun h2 kk => ?_)
    obtain ⟨w3, k⟩ := kk
    exact aw_lvp [0] [(0, .ref 1)] rfl k
  · have k := k.2 c1
    refine aw_aload_n (i := 0) rfl d_X12_part_4 0 rfl ?_
    refine aw_Vv 1 [] [] d_X12_part_5 (cV_X12_compare (d + 54) 0 0) kc_12 (ws_1 w) tw_2241 rfl (rr0 (Nat.le_of_ble_eq_true rfl) (Nat.le_of_ble_eq_true rfl)) (Nat.le_of_ble_eq_true rfl) xs0 k (fun h5 kk => ?_)
    obtain ⟨w6, k⟩ := kk
    refine aw_goto (tgt := 15) d_X12_part_8 rfl ?_
    exact aw_lvp [0] [(0, .ref 1)] rfl k
theorem t_X12_part_15 (d : Nat) (h : Hp_) (w : Wf h)  (K : Hp_ → Prop) (k : (¬ (h_i h 1 34) = (-1) → K h) ∧ ((h_i h 1 34) = (-1) → Ci (m_X12_look (d + 0) 0 0) [.ref 1] h (fun r11 h9 => Wf h9 ∧ ((¬ r11 = 38 → K h9) ∧ (r11 = 38 → Cv (m_X12_unit (d + 55) 0 0) [.ref 1] (h_im h9 1 33 ((h_i h9 1 33) + 1)) (fun h13 => Wf h13 ∧ (Cv (m_X12_say (d + 0) 0 0) [.ref 1, .int 38] h13 (fun h16 => Wf h16 ∧ (AW (m_X12_part (d + 56) 0 0) 0 0 15 [(0, .ref 1)] [] h16 (kV K)))))))))) : AW (m_X12_part (d + 56) 0 0) 0 0 15 [(0, .ref 1)] [] h (kV K) := by
  refine aw_aload_n (i := 0) rfl d_X12_part_15 0 rfl ?_
  refine aw_geti (k0 := 34) kc_12 (ws_1 w) (Nat.le_of_ble_eq_true rfl) tw_1776 d_X12_part_16 rfl ?_
  refine aw_iconst (v := (-1)) d_X12_part_19 ic_m1 ?_
  refine aw_icmp_ne (tgt := 55) d_X12_part_20 rfl (fun c8 => ?_) (fun c8 => ?_)
  · have k := k.1 c8
    exact aw_vret rfl d_X12_part_55 ⟨Nat.le_refl _, Nat.le_refl _⟩ ⟨rfl, k⟩
  · have k := k.2 c8
    refine aw_aload_n (i := 0) rfl d_X12_part_23 0 rfl ?_
    refine aw_Vi 1 [] [] d_X12_part_24 (cV_X12_look (d + 0) 0 0) kc_12 (ws_1 w) tw_2206 rfl (rr0 (Nat.le_of_ble_eq_true rfl) (Nat.le_of_ble_eq_true rfl)) (Nat.le_of_ble_eq_true rfl) xs0 k (fun r11 h9 kk => ?_)
    obtain ⟨w10, k⟩ := kk
    refine aw_bipush (v := 38) d_X12_part_27 ib_38 ?_
    refine aw_icmp_ne (tgt := 55) d_X12_part_29 rfl (fun c12 => ?_) (fun c12 => ?_)
    · have k := k.1 c12
      exact aw_vret rfl d_X12_part_55 ⟨Nat.le_refl _, Nat.le_refl _⟩ ⟨rfl, k⟩
    · have k := k.2 c12
      refine aw_aload_n (i := 0) rfl d_X12_part_32 0 rfl ?_
      refine aw_dup d_X12_part_33 rfl ?_
      refine aw_geti (k0 := 33) kc_12 (ws_1 w10) (Nat.le_of_ble_eq_true rfl) tw_1775 d_X12_part_34 rfl ?_
      refine aw_iconst (v := 1) d_X12_part_37 ic_1 ?_
      refine aw_iadd d_X12_part_38 ?_
      refine aw_puti (k0 := 33) kc_12 (ws_1 w10) (Nat.le_of_ble_eq_true rfl) tw_1775 d_X12_part_39 rfl rfl nf_i ?_
      refine aw_aload_n (i := 0) rfl d_X12_part_42 0 rfl ?_
      refine aw_Vv 1 [] [] d_X12_part_43 (cV_X12_unit (d + 55) 0 0) kc_12 (ws_1 w10) tw_2271 rfl (rr0 (Nat.le_of_ble_eq_true rfl) (Nat.le_of_ble_eq_true rfl)) (Nat.le_of_ble_eq_true rfl) xs0 k (fun h13 kk => ?_)
      obtain ⟨w14, k⟩ := kk
      refine aw_aload_n (i := 0) rfl d_X12_part_46 0 rfl ?_
      refine aw_bipush (v := 38) d_X12_part_47 ib_38 ?_
      refine aw_Vv 1 [.int 38] [] d_X12_part_49 (cV_X12_say (d + 0) 0 0) kc_12 (ws_1 w14) tw_2210 rfl (rr0 (Nat.le_of_ble_eq_true rfl) (Nat.le_of_ble_eq_true rfl)) (Nat.le_of_ble_eq_true rfl) xs0 k (fun h16 kk => ?_)
      obtain ⟨w17, k⟩ := kk
      refine aw_goto (tgt := 15) d_X12_part_52 rfl ?_
      exact k
theorem t_X12_condition (d : Nat) (h : Hp_) (w : Wf h) (x1 : Int32) (K : Hp_ → Prop) (k : Cv (m_X12_part (d + 56) 0 0) [.ref 1, .int x1] h (fun h1 => Wf h1 ∧ (AW (m_X12_condition (d + 57) 0 0) 0 0 5 [(0, .ref 1)] [] h1 (kV K)))) : Cv (m_X12_condition (d + 57) 0 0) [.ref 1, .int x1] h K := by
  refine Ct.of (fun _ _ _ => trivial) rfl (Nat.le_of_ble_eq_true rfl) ?_
  show AW (m_X12_condition (d + 57) 0 0) 0 0 0 [(0, .ref 1), (1, .int x1)] [] h (kV K)
  refine aw_aload_n (i := 0) rfl d_X12_condition_0 0 rfl ?_
  refine aw_iload_n (i := 1) rfl d_X12_condition_1 1 rfl ?_
  refine aw_Vv 1 [.int x1] [] d_X12_condition_2 (cV_X12_part (d + 56) 0 0) kc_12 (ws_1 w) tw_2237 rfl (rr0 (Nat.le_of_ble_eq_true rfl) (Nat.le_of_ble_eq_true rfl)) (Nat.le_of_ble_eq_true rfl) xs0 k (fun h1 kk => ?_)
  obtain ⟨w2, k⟩ := kk
  exact aw_lvp [0] [(0, .ref 1)] rfl k
theorem t_X12_condition_5 (d : Nat) (h : Hp_) (w : Wf h)  (K : Hp_ → Prop) (k : (¬ (h_i h 1 34) = (-1) → K h) ∧ ((h_i h 1 34) = (-1) → Ci (m_X12_look (d + 0) 0 0) [.ref 1] h (fun r7 h5 => Wf h5 ∧ ((¬ r7 = 124 → K h5) ∧ (r7 = 124 → Cv (m_X12_part (d + 56) 0 0) [.ref 1, .int 0] (h_im h5 1 33 ((h_i h5 1 33) + 1)) (fun h9 => Wf h9 ∧ (Cv (m_X12_say (d + 0) 0 0) [.ref 1, .int 124] h9 (fun h12 => Wf h12 ∧ (AW (m_X12_condition (d + 57) 0 0) 0 0 5 [(0, .ref 1)] [] h12 (kV K)))))))))) : AW (m_X12_condition (d + 57) 0 0) 0 0 5 [(0, .ref 1)] [] h (kV K) := by
  refine aw_aload_n (i := 0) rfl d_X12_condition_5 0 rfl ?_
  refine aw_geti (k0 := 34) kc_12 (ws_1 w) (Nat.le_of_ble_eq_true rfl) tw_1776 d_X12_condition_6 rfl ?_
  refine aw_iconst (v := (-1)) d_X12_condition_9 ic_m1 ?_
  refine aw_icmp_ne (tgt := 46) d_X12_condition_10 rfl (fun c4 => ?_) (fun c4 => ?_)
  · have k := k.1 c4
    exact aw_vret rfl d_X12_condition_46 ⟨Nat.le_refl _, Nat.le_refl _⟩ ⟨rfl, k⟩
  · have k := k.2 c4
    refine aw_aload_n (i := 0) rfl d_X12_condition_13 0 rfl ?_
    refine aw_Vi 1 [] [] d_X12_condition_14 (cV_X12_look (d + 0) 0 0) kc_12 (ws_1 w) tw_2206 rfl (rr0 (Nat.le_of_ble_eq_true rfl) (Nat.le_of_ble_eq_true rfl)) (Nat.le_of_ble_eq_true rfl) xs0 k (fun r7 h5 kk => ?_)
    obtain ⟨w6, k⟩ := kk
    refine aw_bipush (v := 124) d_X12_condition_17 ib_124 ?_
    refine aw_icmp_ne (tgt := 46) d_X12_condition_19 rfl (fun c8 => ?_) (fun c8 => ?_)
    · have k := k.1 c8
      exact aw_vret rfl d_X12_condition_46 ⟨Nat.le_refl _, Nat.le_refl _⟩ ⟨rfl, k⟩
    · have k := k.2 c8
      refine aw_aload_n (i := 0) rfl d_X12_condition_22 0 rfl ?_
      refine aw_dup d_X12_condition_23 rfl ?_
      refine aw_geti (k0 := 33) kc_12 (ws_1 w6) (Nat.le_of_ble_eq_true rfl) tw_1775 d_X12_condition_24 rfl ?_
      refine aw_iconst (v := 1) d_X12_condition_27 ic_1 ?_
      refine aw_iadd d_X12_condition_28 ?_
      refine aw_puti (k0 := 33) kc_12 (ws_1 w6) (Nat.le_of_ble_eq_true rfl) tw_1775 d_X12_condition_29 rfl rfl nf_i ?_
      refine aw_aload_n (i := 0) rfl d_X12_condition_32 0 rfl ?_
      refine aw_iconst (v := 0) d_X12_condition_33 ic_0 ?_
      refine aw_Vv 1 [.int 0] [] d_X12_condition_34 (cV_X12_part (d + 56) 0 0) kc_12 (ws_1 w6) tw_2237 rfl (rr0 (Nat.le_of_ble_eq_true rfl) (Nat.le_of_ble_eq_true rfl)) (Nat.le_of_ble_eq_true rfl) xs0 k (fun h9 kk => ?_)
      obtain ⟨w10, k⟩ := kk
      refine aw_aload_n (i := 0) rfl d_X12_condition_37 0 rfl ?_
      refine aw_bipush (v := 124) d_X12_condition_38 ib_124 ?_
      refine aw_Vv 1 [.int 124] [] d_X12_condition_40 (cV_X12_say (d + 0) 0 0) kc_12 (ws_1 w10) tw_2210 rfl (rr0 (Nat.le_of_ble_eq_true rfl) (Nat.le_of_ble_eq_true rfl)) (Nat.le_of_ble_eq_true rfl) xs0 k (fun h12 kk => ?_)
      obtain ⟨w13, k⟩ := kk
      refine aw_goto (tgt := 5) d_X12_condition_43 rfl ?_
      exact k
end
section
/-! what a read sum or condition leaves -/
abbrev pd (h : Hp_) : Int := (h_i h 1 35).toInt
abbrev ps (h : Hp_) : Int := (h_i h 1 36).toInt
abbrev sN (h : Hp_) : Nat := (h_i h 1 36).toNatClampNeg
def Pq (h : Hp_) : Prop := h_i h 1 34 = -1 ∧ pa h ≤ pz h ∧ pd h ≤ 6 ∧ ps h ≤ 3 * pa h + 4
def Pe (s : Nat) (h h' : Hp_) : Prop := Iv h' ∧ Fr wzp h h' ∧ pd h' = pd h ∧ pa h ≤ pa h' ∧ (∀ k, k < sN h → h_i h' 226 k = h_i h 226 k) ∧ ps h ≤ ps h' ∧
  (h_i h' 1 34 = -1 → pa h' ≤ pz h ∧ pa h < pa h' ∧ ps h' ≤ ps h + 2 * (pa h' - pa h) ∧ ∃ K : Nat, (K : Int) ≤ pa h' - pa h ∧ PR s (h_i h' 226) (sN h) (sN h') K) ∧
  (¬ h_i h' 1 34 = -1 → pa h' + pd h ≤ pz h + 7 ∧ ps h' ≤ ps h + 2 * (pa h' - pa h) + 2)
theorem ps_in {h : Hp_} (I : Iv h) : rin (ps h) (0, 559) := by
  have := I.2.1 1 36
  rwa [show tf 1 36 = (0, 559) by decide +kernel] at this
theorem sN_i {h : Hp_} (I : Iv h) : (sN h : Int) = ps h := n_nat (ps_in I).1
theorem zf {ws : List Nat} {h h' : Hp_} (f : Fr ws h h') (o : inw ws 1 32 = false) : pz h' = pz h := by show (h_i h' 1 32).toInt = _; rw [(f.2 1 32 o).1]
/-- one operand more and its sign -/
theorem Pe.op {s : Nat} {h h2 h6 h9 h12 : Hp_} {x : Int32} (P : Pe s h h2) (w2 : h_i h2 1 34 = -1) (I2 : Iv h) (I6 : Iv h6) (F6 : Fr [1033] h2 h6) (a6 : pa h2 + 1 ≤ pa h6) (Q : Pe s h6 h9)
    (S : Iv h12 ∧ Fr [1036, 226999] h9 h12 ∧ (h_i h12 1 36).toInt = (h_i h9 1 36).toInt + 1 ∧ h_i h12 226 (h_i h9 1 36).toNatClampNeg = x ∧ ∀ k, k ≠ (h_i h9 1 36).toNatClampNeg → h_i h12 226 k = h_i h9 226 k) (hx : opc x = true) : Pe s h h12 := by
  obtain ⟨p1, p2, p3, p4, p5, p6, p7, p8⟩ := P
  obtain ⟨q1, q2, q3, q4, q5, q6, q7, q8⟩ := Q
  obtain ⟨s1, s2, s3, s4, s5⟩ := S
  obtain ⟨r1, r2, r3, K1, r4, r5⟩ := p7 w2
  have f35 : pd h6 = pd h2 := by show (h_i h6 1 35).toInt = _; rw [(F6.2 1 35 (by decide +kernel)).1]
  have f36 : h_i h6 1 36 = h_i h2 1 36 := (F6.2 1 36 (by decide +kernel)).1
  have f226 : ∀ k, h_i h6 226 k = h_i h2 226 k := fun k => fr_i F6 (by decide +kernel) k
  have z2 := zf p2 (by decide +kernel)
  have z6 := zf F6 (by decide +kernel)
  have e33 : pa h12 = pa h9 := by show (h_i h12 1 33).toInt = _; rw [(s2.2 1 33 (by decide +kernel)).1]
  have e34 : h_i h12 1 34 = h_i h9 1 34 := (s2.2 1 34 (by decide +kernel)).1
  have e35 : pd h12 = pd h9 := by show (h_i h12 1 35).toInt = _; rw [(s2.2 1 35 (by decide +kernel)).1]
  have e36 : ps h12 = ps h9 + 1 := s3
  have ps6 : ps h6 = ps h2 := by show (h_i h6 1 36).toInt = _; rw [f36]
  have sn6 : sN h6 = sN h2 := by show (h_i h6 1 36).toNatClampNeg = _; rw [f36]
  have n2 := sN_i p1
  have n9 := sN_i q1
  have n12 := sN_i s1
  have n0 := sN_i I2
  have sn12 : sN h12 = sN h9 + 1 := by omega
  refine ⟨s1, ((p2.tr (F6.more (by decide +kernel))).tr q2).tr (s2.more (by decide +kernel)), by omega, by omega, fun k hk => ?_, by omega, fun w => ?_, fun w => ?_⟩
  · rw [s5 k (by show k ≠ sN h9; omega), q5 k (by omega), f226, p5 k hk]
  · rw [e34] at w
    obtain ⟨t1, t2, t3, K2, t4, t5⟩ := q7 w
    refine ⟨by omega, by omega, by omega, max K1 (K2 + 1), by omega, ?_⟩
    rw [sn12]
    refine PR.bin (j := sN h2) (PR.same (fun k a b => ?_) r5) (m := sN h9) (k2 := K2) (PR.same (fun k a b => ?_) (by rw [← sn6]; exact t5)) (by rw [show h_i h12 226 (sN h9) = x from s4]; exact hx) (by omega) (by omega)
    · rw [s5 k (by show k ≠ sN h9; omega), q5 k (by omega), f226]
    · rw [s5 k (by show k ≠ sN h9; omega)]
  · rw [e34] at w
    obtain ⟨t1, t2⟩ := q8 w
    exact ⟨by omega, by omega⟩
/-- a look behind what was read -/
theorem Pe.lk {s : Nat} {h h2 h5 : Hp_} {r : Int32} (P : Pe s h h2) (I : Iv h) (L : Lk h2 r h5) : Pe s h h5 := by
  obtain ⟨p1, p2, p3, p4, p5, p6, p7, p8⟩ := P
  obtain ⟨l1, l2, l3, l4, l5⟩ := L
  have z2 := zf p2 (by decide +kernel)
  have e34 : h_i h5 1 34 = h_i h2 1 34 := (l2.2 1 34 (by decide +kernel)).1
  have e35 : pd h5 = pd h2 := by show (h_i h5 1 35).toInt = _; rw [(l2.2 1 35 (by decide +kernel)).1]
  have e36 : h_i h5 1 36 = h_i h2 1 36 := (l2.2 1 36 (by decide +kernel)).1
  have p36 : ps h5 = ps h2 := by show (h_i h5 1 36).toInt = _; rw [e36]
  have n36 : sN h5 = sN h2 := by show (h_i h5 1 36).toNatClampNeg = _; rw [e36]
  have f226 : h_i h5 226 = h_i h2 226 := funext (fun k => fr_i l2 (by decide +kernel) k)
  refine ⟨l1, p2.tr (l2.more (by decide +kernel)), by omega, by omega, fun k hk => by rw [f226]; exact p5 k hk, by omega, fun w => ?_, fun w => ?_⟩
  · rw [e34] at w
    obtain ⟨t1, t2, t3, K, t4, t5⟩ := p7 w
    refine ⟨by omega, by omega, by omega, K, by omega, ?_⟩
    rw [n36, f226]; exact t5
  · rw [e34] at w
    obtain ⟨t1, t2⟩ := p8 w
    have d0 : 0 ≤ pd h := (dp_in7 I).1
    have d7 : pd h ≤ 7 := (dp_in7 I).2
    exact ⟨by omega, by omega⟩
end
section
/-! terms and sums of one depth, out of atoms of that depth -/
theorem Pe.room {s : Nat} {h h' : Hp_} (I : Iv h) (q : Pq h) (P : Pe s h h') : ps h' ≤ 558 := by
  obtain ⟨p1, p2, p3, p4, p5, p6, p7, p8⟩ := P
  obtain ⟨q1, q2, q3, q4⟩ := q
  have z1 : pz h ≤ 160 := (pz_in I).2
  have d0 : 0 ≤ pd h := (dp_in7 I).1
  by_cases w : h_i h' 1 34 = -1
  · obtain ⟨t1, t2, t3, _⟩ := p7 w
    omega
  · obtain ⟨t1, t2⟩ := p8 w
    omega
/-- one sign further -/
theorem Pe.nx {s : Nat} {h h5 : Hp_} (I : Iv h) (q : Pq h) (P : Pe s h h5) (w : h_i h5 1 34 = -1) (l : pa h5 < pz h) : Iv (h_im h5 1 33 ((h_i h5 1 33) + 1)) ∧ Fr [1033] h5 (h_im h5 1 33 ((h_i h5 1 33) + 1)) ∧ pa (h_im h5 1 33 ((h_i h5 1 33) + 1)) = pa h5 + 1 ∧ Pq (h_im h5 1 33 ((h_i h5 1 33) + 1)) ∧ pd (h_im h5 1 33 ((h_i h5 1 33) + 1)) = pd h ∧ h_i (h_im h5 1 33 ((h_i h5 1 33) + 1)) 1 37 = h_i h 1 37 := by
  obtain ⟨p1, p2, p3, p4, p5, p6, p7, p8⟩ := P
  obtain ⟨q1, q2, q3, q4⟩ := q
  obtain ⟨t1, t2, t3, _⟩ := p7 w
  have z1 : pz h ≤ 160 := (pz_in I).2
  have a0 : 0 ≤ pa h5 := (pa_in p1).1
  have o1 : (1 : Int32).toInt = 1 := rfl
  have z5 := zf p2 (by decide +kernel)
  have e33 : (h_i h5 1 33 + 1).toInt = pa h5 + 1 := by
    show (h_i h5 1 33 + 1).toInt = (h_i h5 1 33).toInt + 1
    have a0' : 0 ≤ (h_i h5 1 33).toInt := a0
    have l' : (h_i h5 1 33).toInt < pz h := l
    rw [tx_add (by rw [o1]; omega) (by rw [o1]; omega), o1]
  have ea : pa (h_im h5 1 33 ((h_i h5 1 33) + 1)) = pa h5 + 1 := by
    show (h_i (h_im h5 1 33 _) 1 33).toInt = _
    rw [im_at]; exact e33
  have ez : pz (h_im h5 1 33 ((h_i h5 1 33) + 1)) = pz h := by
    show (h_i (h_im h5 1 33 _) 1 32).toInt = _
    rw [f_ne (by decide)]; exact z5
  have ed : pd (h_im h5 1 33 ((h_i h5 1 33) + 1)) = pd h := by
    show (h_i (h_im h5 1 33 _) 1 35).toInt = _
    rw [f_ne (by decide)]; exact p3
  have es : ps (h_im h5 1 33 ((h_i h5 1 33) + 1)) = ps h5 := by
    show (h_i (h_im h5 1 33 _) 1 36).toInt = _
    rw [f_ne (by decide)]
  refine ⟨i33 p1 ⟨by rw [e33]; show (0 : Int) ≤ _; omega, by rw [e33]; show _ ≤ (180 : Int); omega⟩, (Fr.rf _ _).im (by decide +kernel), ea, ⟨by rw [f_ne (by decide)]; exact w, by omega, by omega, by omega⟩, ed, ?_⟩
  rw [f_ne (by decide)]
  exact (p2.2 1 37 (by decide +kernel)).1
def Rd (s : Nat) (D : Int) (C : Nat → Hp_ → (Hp_ → Prop) → Prop) : Prop := ∀ (d : Nat) (h : Hp_), Iv h → Pq h → pd h = D → h_i h 1 37 = Int32.ofNat s → C d h (fun h' => Pe s h h')
theorem c_term (s e : Nat) (D : Int) (A : Rd s D (fun d h K => Cv (m_X12_atom (d + e + 51) 0 0) [.ref 1] h K)) : Rd s D (fun d h K => Cv (m_X12_term (d + e + 52) 0 0) [.ref 1] h K) := by
  intro d h I q eD es
  have z1 : pz h ≤ 160 := (pz_in I).2
  have lp : ∀ (n : Nat) (h2 : Hp_), Pe s h h2 → pz h - pa h2 ≤ n → AW (m_X12_term (d + e + 52) 0 0) 0 0 4 [(0, .ref 1)] [] h2 (kV (fun h' => Pe s h h')) := by
    intro n
    induction n with
    | zero =>
      intro h2 P m
      refine t_X12_term_4 (d + e) h2 P.1.1 _ ⟨fun _ => P, fun w => Ci.mono (c_look (d + e) P.1) (fun r h5 L => ⟨L.1.1, fun _ => P.lk I L, fun er => ?_⟩)⟩
      have z2 := zf P.2.1 (by decide +kernel)
      have l3 := L.2.2.1
      rcases L.2.2.2.2 with u | u
      · rw [er] at u; exact absurd u.1 (by decide)
      · have := u.1
        omega
    | succ n ih =>
      intro h2 P m
      refine t_X12_term_4 (d + e) h2 P.1.1 _ ⟨fun _ => P, fun w => Ci.mono (c_look (d + e) P.1) (fun r h5 L => ⟨L.1.1, fun _ => P.lk I L, fun er => ?_⟩)⟩
      have P5 := P.lk I L
      have w5 : h_i h5 1 34 = -1 := by rw [(L.2.1.2 1 34 (by decide +kernel)).1]; exact w
      have z2 := zf P.2.1 (by decide +kernel)
      have l3 := L.2.2.1
      have l5 : pa h5 < pz h := by
        rcases L.2.2.2.2 with u | u
        · rw [er] at u; exact absurd u.1 (by decide)
        · have := u.1
          omega
      obtain ⟨I6, F6, a6, q6, d6, s6⟩ := P5.nx I q w5 l5
      refine Cv.mono (A d _ I6 q6 (by omega) (by rw [s6]; exact es)) (fun h9 Q => ⟨Q.1.1, Cv.mono (c_say (d + e) Q.1 42 (Q.room I6 q6)) (fun h12 S => ?_)⟩)
      have P12 := P5.op w5 I I6 F6 (by omega) Q S (by decide)
      have e33 : pa h12 = pa h9 := by show (h_i h12 1 33).toInt = _; rw [(S.2.1.2 1 33 (by decide +kernel)).1]
      have q4 := Q.2.2.2.1
      exact ⟨S.1.1, ih h12 P12 (by omega)⟩
  refine t_X12_term (d + e) h I.1 _ (Cv.mono (A d h I q eD es) (fun h1 P => ⟨P.1.1, lp 160 h1 P ?_⟩))
  have a1 : 0 ≤ pa h1 := (pa_in P.1).1
  omega
end
