theorem t_X12_drop (d : Nat) (h : Hp_) (w : Wf h) (x1 : Int32) (x2 : Int32) (K : Hp_ → Prop) (k : vp_in x1 12 ∧ (vp_in x1 12 ∧ (((h_i h 217 x1.toNatClampNeg) ≤ (h_i h 216 x1.toNatClampNeg) → vp_in x1 12 ∧ (K (h_im h 213 x1.toNatClampNeg (-1)))) ∧ (¬ (h_i h 217 x1.toNatClampNeg) ≤ (h_i h 216 x1.toNatClampNeg) → vp_in x1 12 ∧ (vp_in (h_i h 216 x1.toNatClampNeg) 400 ∧ ((¬ (h_i h 241 ((h_i h 216 x1.toNatClampNeg) : Int32).toNatClampNeg) = (-1) → vp_in x1 12 ∧ (vp_in x1 12 ∧ (AW (m_X12_drop (d + 1) 0 0) 0 0 0 [(0, .ref 1), (1, .int x1), (2, .int x2)] [] (h_im h 216 x1.toNatClampNeg ((h_i h 216 x1.toNatClampNeg) + 1)) (kV K)))) ∧ ((h_i h 241 ((h_i h 216 x1.toNatClampNeg) : Int32).toNatClampNeg) = (-1) → vp_in x1 12 ∧ (vp_in (h_i h 216 x1.toNatClampNeg) 400 ∧ ((¬ (h_i h 242 ((h_i h 216 x1.toNatClampNeg) : Int32).toNatClampNeg) = (-1) → vp_in x1 12 ∧ (vp_in x1 12 ∧ (AW (m_X12_drop (d + 1) 0 0) 0 0 0 [(0, .ref 1), (1, .int x1), (2, .int x2)] [] (h_im h 216 x1.toNatClampNeg ((h_i h 216 x1.toNatClampNeg) + 1)) (kV K)))) ∧ ((h_i h 242 ((h_i h 216 x1.toNatClampNeg) : Int32).toNatClampNeg) = (-1) → vp_in x1 12 ∧ (Cv (m_X12_miss (d + 0) 0 0) [.ref 1, .int (h_i h 216 x1.toNatClampNeg), .int x2] h (fun h16 => Wf h16 ∧ (vp_in x1 12 ∧ (vp_in x1 12 ∧ (AW (m_X12_drop (d + 1) 0 0) 0 0 0 [(0, .ref 1), (1, .int x1), (2, .int x2)] [] (h_im h16 216 x1.toNatClampNeg ((h_i h16 216 x1.toNatClampNeg) + 1)) (kV K)))))))))))))))) : Cv (m_X12_drop (d + 1) 0 0) [.ref 1, .int x1, .int x2] h K := by
  refine Ct.of (fun _ _ _ => trivial) rfl (Nat.le_of_ble_eq_true rfl) ?_
  show AW (m_X12_drop (d + 1) 0 0) 0 0 0 [(0, .ref 1), (1, .int x1), (2, .int x2)] [] h (kV K)
  refine aw_aload_n (i := 0) rfl d_X12_drop_0 0 rfl ?_
  refine aw_getr (k0 := 20) kc_12 (ws_1 w) (Nat.le_of_ble_eq_true rfl) tw_1762 d_X12_drop_1 rfl (wr_1_20 w) ?_
  refine aw_iload_n (i := 1) rfl d_X12_drop_4 1 rfl ?_
  obtain ⟨b1, k⟩ := k
  refine aw_iald (ws_216 w) b1 d_X12_drop_5 ?_
  refine aw_aload_n (i := 0) rfl d_X12_drop_6 0 rfl ?_
  refine aw_getr (k0 := 21) kc_12 (ws_1 w) (Nat.le_of_ble_eq_true rfl) tw_1763 d_X12_drop_7 rfl (wr_1_21 w) ?_
  refine aw_iload_n (i := 1) rfl d_X12_drop_10 1 rfl ?_
  obtain ⟨b2, k⟩ := k
  refine aw_iald (ws_217 w) b2 d_X12_drop_11 ?_
  refine aw_icmp_ge (tgt := 69) d_X12_drop_12 rfl (fun c3 => ?_) (fun c3 => ?_)
  · have k := k.1 c3
    refine aw_aload_n (i := 0) rfl d_X12_drop_69 0 rfl ?_
    refine aw_getr (k0 := 17) kc_12 (ws_1 w) (Nat.le_of_ble_eq_true rfl) tw_1759 d_X12_drop_70 rfl (wr_1_17 w) ?_
    refine aw_iload_n (i := 1) rfl d_X12_drop_73 1 rfl ?_
    refine aw_iconst (v := (-1)) d_X12_drop_74 ic_m1 ?_
    obtain ⟨b4, k⟩ := k
    refine aw_iast (ws_213 w) b4 d_X12_drop_75 ?_
    exact aw_vret rfl d_X12_drop_76 ⟨Nat.le_refl _, Nat.le_refl _⟩ ⟨rfl, k⟩
  · have k := k.2 c3
    refine aw_aload_n (i := 0) rfl d_X12_drop_15 0 rfl ?_
    refine aw_getr (k0 := 56) kc_12 (ws_1 w) (Nat.le_of_ble_eq_true rfl) tw_1798 d_X12_drop_16 rfl (wr_1_56 w) ?_
    refine aw_aload_n (i := 0) rfl d_X12_drop_19 0 rfl ?_
    refine aw_getr (k0 := 20) kc_12 (ws_1 w) (Nat.le_of_ble_eq_true rfl) tw_1762 d_X12_drop_20 rfl (wr_1_20 w) ?_
    refine aw_iload_n (i := 1) rfl d_X12_drop_23 1 rfl ?_
    obtain ⟨b5, k⟩ := k
    refine aw_iald (ws_216 w) b5 d_X12_drop_24 ?_
    obtain ⟨b6, k⟩ := k
    refine aw_iald (ws_241 w) b6 d_X12_drop_25 ?_
    refine aw_iconst (v := (-1)) d_X12_drop_26 ic_m1 ?_
    refine aw_icmp_ne (tgt := 56) d_X12_drop_27 rfl (fun c7 => ?_) (fun c7 => ?_)
    · have k := k.1 c7
      refine aw_aload_n (i := 0) rfl d_X12_drop_56 0 rfl ?_
      refine aw_getr (k0 := 20) kc_12 (ws_1 w) (Nat.le_of_ble_eq_true rfl) tw_1762 d_X12_drop_57 rfl (wr_1_20 w) ?_
      refine aw_iload_n (i := 1) rfl d_X12_drop_60 1 rfl ?_
      refine aw_dup2 d_X12_drop_61 ⟨rfl, rfl⟩ ?_
      obtain ⟨b8, k⟩ := k
      refine aw_iald (ws_216 w) b8 d_X12_drop_62 ?_
      refine aw_iconst (v := 1) d_X12_drop_63 ic_1 ?_
      refine aw_iadd d_X12_drop_64 ?_
      obtain ⟨b9, k⟩ := k
      refine aw_iast (ws_216 w) b9 d_X12_drop_65 ?_
      refine aw_goto (tgt := 0) d_X12_drop_66 rfl ?_
      exact k
    · have k := k.2 c7
      refine aw_aload_n (i := 0) rfl d_X12_drop_30 0 rfl ?_
      refine aw_getr (k0 := 57) kc_12 (ws_1 w) (Nat.le_of_ble_eq_true rfl) tw_1799 d_X12_drop_31 rfl (wr_1_57 w) ?_
      refine aw_aload_n (i := 0) rfl d_X12_drop_34 0 rfl ?_
      refine aw_getr (k0 := 20) kc_12 (ws_1 w) (Nat.le_of_ble_eq_true rfl) tw_1762 d_X12_drop_35 rfl (wr_1_20 w) ?_
      refine aw_iload_n (i := 1) rfl d_X12_drop_38 1 rfl ?_
      obtain ⟨b10, k⟩ := k
      refine aw_iald (ws_216 w) b10 d_X12_drop_39 ?_
      obtain ⟨b11, k⟩ := k
      refine aw_iald (ws_242 w) b11 d_X12_drop_40 ?_
      refine aw_iconst (v := (-1)) d_X12_drop_41 ic_m1 ?_
      refine aw_icmp_ne (tgt := 56) d_X12_drop_42 rfl (fun c12 => ?_) (fun c12 => ?_)
      · have k := k.1 c12
        refine aw_aload_n (i := 0) rfl d_X12_drop_56 0 rfl ?_
        refine aw_getr (k0 := 20) kc_12 (ws_1 w) (Nat.le_of_ble_eq_true rfl) tw_1762 d_X12_drop_57 rfl (wr_1_20 w) ?_
        refine aw_iload_n (i := 1) rfl d_X12_drop_60 1 rfl ?_
        refine aw_dup2 d_X12_drop_61 ⟨rfl, rfl⟩ ?_
        obtain ⟨b13, k⟩ := k
        refine aw_iald (ws_216 w) b13 d_X12_drop_62 ?_
        refine aw_iconst (v := 1) d_X12_drop_63 ic_1 ?_
        refine aw_iadd d_X12_drop_64 ?_
        obtain ⟨b14, k⟩ := k
        refine aw_iast (ws_216 w) b14 d_X12_drop_65 ?_
        refine aw_goto (tgt := 0) d_X12_drop_66 rfl ?_
        exact k
      · have k := k.2 c12
        refine aw_aload_n (i := 0) rfl d_X12_drop_45 0 rfl ?_
        refine aw_aload_n (i := 0) rfl d_X12_drop_46 0 rfl ?_
        refine aw_getr (k0 := 20) kc_12 (ws_1 w) (Nat.le_of_ble_eq_true rfl) tw_1762 d_X12_drop_47 rfl (wr_1_20 w) ?_
        refine aw_iload_n (i := 1) rfl d_X12_drop_50 1 rfl ?_
        obtain ⟨b15, k⟩ := k
        refine aw_iald (ws_216 w) b15 d_X12_drop_51 ?_
        refine aw_iload_n (i := 2) rfl d_X12_drop_52 2 rfl ?_
        refine aw_Vv 1 [.int (h_i h 216 x1.toNatClampNeg), .int x2] [] d_X12_drop_53 (cV_X12_miss (d + 0) 0 0) kc_12 (ws_1 w) tw_2352 rfl (rr0 (Nat.le_of_ble_eq_true rfl) (Nat.le_of_ble_eq_true rfl)) (Nat.le_of_ble_eq_true rfl) xs0 k (fun h16 kk => ?_)
        obtain ⟨w17, k⟩ := kk
        refine aw_aload_n (i := 0) rfl d_X12_drop_56 0 rfl ?_
        refine aw_getr (k0 := 20) kc_12 (ws_1 w17) (Nat.le_of_ble_eq_true rfl) tw_1762 d_X12_drop_57 rfl (wr_1_20 w17) ?_
        refine aw_iload_n (i := 1) rfl d_X12_drop_60 1 rfl ?_
        refine aw_dup2 d_X12_drop_61 ⟨rfl, rfl⟩ ?_
        obtain ⟨b19, k⟩ := k
        refine aw_iald (ws_216 w17) b19 d_X12_drop_62 ?_
        refine aw_iconst (v := 1) d_X12_drop_63 ic_1 ?_
        refine aw_iadd d_X12_drop_64 ?_
        obtain ⟨b20, k⟩ := k
        refine aw_iast (ws_216 w17) b20 d_X12_drop_65 ?_
        refine aw_goto (tgt := 0) d_X12_drop_66 rfl ?_
        exact k
theorem t_X12_drop_0 (d : Nat) (h : Hp_) (w : Wf h) (x1 : Int32) (x2 : Int32) (K : Hp_ → Prop) (k : vp_in x1 12 ∧ (vp_in x1 12 ∧ (((h_i h 217 x1.toNatClampNeg) ≤ (h_i h 216 x1.toNatClampNeg) → vp_in x1 12 ∧ (K (h_im h 213 x1.toNatClampNeg (-1)))) ∧ (¬ (h_i h 217 x1.toNatClampNeg) ≤ (h_i h 216 x1.toNatClampNeg) → vp_in x1 12 ∧ (vp_in (h_i h 216 x1.toNatClampNeg) 400 ∧ ((¬ (h_i h 241 ((h_i h 216 x1.toNatClampNeg) : Int32).toNatClampNeg) = (-1) → vp_in x1 12 ∧ (vp_in x1 12 ∧ (AW (m_X12_drop (d + 1) 0 0) 0 0 0 [(0, .ref 1), (1, .int x1), (2, .int x2)] [] (h_im h 216 x1.toNatClampNeg ((h_i h 216 x1.toNatClampNeg) + 1)) (kV K)))) ∧ ((h_i h 241 ((h_i h 216 x1.toNatClampNeg) : Int32).toNatClampNeg) = (-1) → vp_in x1 12 ∧ (vp_in (h_i h 216 x1.toNatClampNeg) 400 ∧ ((¬ (h_i h 242 ((h_i h 216 x1.toNatClampNeg) : Int32).toNatClampNeg) = (-1) → vp_in x1 12 ∧ (vp_in x1 12 ∧ (AW (m_X12_drop (d + 1) 0 0) 0 0 0 [(0, .ref 1), (1, .int x1), (2, .int x2)] [] (h_im h 216 x1.toNatClampNeg ((h_i h 216 x1.toNatClampNeg) + 1)) (kV K)))) ∧ ((h_i h 242 ((h_i h 216 x1.toNatClampNeg) : Int32).toNatClampNeg) = (-1) → vp_in x1 12 ∧ (Cv (m_X12_miss (d + 0) 0 0) [.ref 1, .int (h_i h 216 x1.toNatClampNeg), .int x2] h (fun h36 => Wf h36 ∧ (vp_in x1 12 ∧ (vp_in x1 12 ∧ (AW (m_X12_drop (d + 1) 0 0) 0 0 0 [(0, .ref 1), (1, .int x1), (2, .int x2)] [] (h_im h36 216 x1.toNatClampNeg ((h_i h36 216 x1.toNatClampNeg) + 1)) (kV K)))))))))))))))) : AW (m_X12_drop (d + 1) 0 0) 0 0 0 [(0, .ref 1), (1, .int x1), (2, .int x2)] [] h (kV K) := by
  refine aw_aload_n (i := 0) rfl d_X12_drop_0 0 rfl ?_
  refine aw_getr (k0 := 20) kc_12 (ws_1 w) (Nat.le_of_ble_eq_true rfl) tw_1762 d_X12_drop_1 rfl (wr_1_20 w) ?_
  refine aw_iload_n (i := 1) rfl d_X12_drop_4 1 rfl ?_
  obtain ⟨b21, k⟩ := k
  refine aw_iald (ws_216 w) b21 d_X12_drop_5 ?_
  refine aw_aload_n (i := 0) rfl d_X12_drop_6 0 rfl ?_
  refine aw_getr (k0 := 21) kc_12 (ws_1 w) (Nat.le_of_ble_eq_true rfl) tw_1763 d_X12_drop_7 rfl (wr_1_21 w) ?_
  refine aw_iload_n (i := 1) rfl d_X12_drop_10 1 rfl ?_
  obtain ⟨b22, k⟩ := k
  refine aw_iald (ws_217 w) b22 d_X12_drop_11 ?_
  refine aw_icmp_ge (tgt := 69) d_X12_drop_12 rfl (fun c23 => ?_) (fun c23 => ?_)
  · have k := k.1 c23
    refine aw_aload_n (i := 0) rfl d_X12_drop_69 0 rfl ?_
    refine aw_getr (k0 := 17) kc_12 (ws_1 w) (Nat.le_of_ble_eq_true rfl) tw_1759 d_X12_drop_70 rfl (wr_1_17 w) ?_
    refine aw_iload_n (i := 1) rfl d_X12_drop_73 1 rfl ?_
    refine aw_iconst (v := (-1)) d_X12_drop_74 ic_m1 ?_
    obtain ⟨b24, k⟩ := k
    refine aw_iast (ws_213 w) b24 d_X12_drop_75 ?_
    exact aw_vret rfl d_X12_drop_76 ⟨Nat.le_refl _, Nat.le_refl _⟩ ⟨rfl, k⟩
  · have k := k.2 c23
    refine aw_aload_n (i := 0) rfl d_X12_drop_15 0 rfl ?_
    refine aw_getr (k0 := 56) kc_12 (ws_1 w) (Nat.le_of_ble_eq_true rfl) tw_1798 d_X12_drop_16 rfl (wr_1_56 w) ?_
    refine aw_aload_n (i := 0) rfl d_X12_drop_19 0 rfl ?_
    refine aw_getr (k0 := 20) kc_12 (ws_1 w) (Nat.le_of_ble_eq_true rfl) tw_1762 d_X12_drop_20 rfl (wr_1_20 w) ?_
    refine aw_iload_n (i := 1) rfl d_X12_drop_23 1 rfl ?_
    obtain ⟨b25, k⟩ := k
    refine aw_iald (ws_216 w) b25 d_X12_drop_24 ?_
    obtain ⟨b26, k⟩ := k
    refine aw_iald (ws_241 w) b26 d_X12_drop_25 ?_
    refine aw_iconst (v := (-1)) d_X12_drop_26 ic_m1 ?_
    refine aw_icmp_ne (tgt := 56) d_X12_drop_27 rfl (fun c27 => ?_) (fun c27 => ?_)
    · have k := k.1 c27
      refine aw_aload_n (i := 0) rfl d_X12_drop_56 0 rfl ?_
      refine aw_getr (k0 := 20) kc_12 (ws_1 w) (Nat.le_of_ble_eq_true rfl) tw_1762 d_X12_drop_57 rfl (wr_1_20 w) ?_
      refine aw_iload_n (i := 1) rfl d_X12_drop_60 1 rfl ?_
      refine aw_dup2 d_X12_drop_61 ⟨rfl, rfl⟩ ?_
      obtain ⟨b28, k⟩ := k
      refine aw_iald (ws_216 w) b28 d_X12_drop_62 ?_
      refine aw_iconst (v := 1) d_X12_drop_63 ic_1 ?_
      refine aw_iadd d_X12_drop_64 ?_
      obtain ⟨b29, k⟩ := k
      refine aw_iast (ws_216 w) b29 d_X12_drop_65 ?_
      refine aw_goto (tgt := 0) d_X12_drop_66 rfl ?_
      exact k
    · have k := k.2 c27
      refine aw_aload_n (i := 0) rfl d_X12_drop_30 0 rfl ?_
      refine aw_getr (k0 := 57) kc_12 (ws_1 w) (Nat.le_of_ble_eq_true rfl) tw_1799 d_X12_drop_31 rfl (wr_1_57 w) ?_
      refine aw_aload_n (i := 0) rfl d_X12_drop_34 0 rfl ?_
      refine aw_getr (k0 := 20) kc_12 (ws_1 w) (Nat.le_of_ble_eq_true rfl) tw_1762 d_X12_drop_35 rfl (wr_1_20 w) ?_
      refine aw_iload_n (i := 1) rfl d_X12_drop_38 1 rfl ?_
      obtain ⟨b30, k⟩ := k
      refine aw_iald (ws_216 w) b30 d_X12_drop_39 ?_
      obtain ⟨b31, k⟩ := k
      refine aw_iald (ws_242 w) b31 d_X12_drop_40 ?_
      refine aw_iconst (v := (-1)) d_X12_drop_41 ic_m1 ?_
      refine aw_icmp_ne (tgt := 56) d_X12_drop_42 rfl (fun c32 => ?_) (fun c32 => ?_)
      · have k := k.1 c32
        refine aw_aload_n (i := 0) rfl d_X12_drop_56 0 rfl ?_
        refine aw_getr (k0 := 20) kc_12 (ws_1 w) (Nat.le_of_ble_eq_true rfl) tw_1762 d_X12_drop_57 rfl (wr_1_20 w) ?_
        refine aw_iload_n (i := 1) rfl d_X12_drop_60 1 rfl ?_
        refine aw_dup2 d_X12_drop_61 ⟨rfl, rfl⟩ ?_
        obtain ⟨b33, k⟩ := k
        refine aw_iald (ws_216 w) b33 d_X12_drop_62 ?_
        refine aw_iconst (v := 1) d_X12_drop_63 ic_1 ?_
        refine aw_iadd d_X12_drop_64 ?_
        obtain ⟨b34, k⟩ := k
        refine aw_iast (ws_216 w) b34 d_X12_drop_65 ?_
        refine aw_goto (tgt := 0) d_X12_drop_66 rfl ?_
        exact k
      · have k := k.2 c32
        refine aw_aload_n (i := 0) rfl d_X12_drop_45 0 rfl ?_
        refine aw_aload_n (i := 0) rfl d_X12_drop_46 0 rfl ?_
        refine aw_getr (k0 := 20) kc_12 (ws_1 w) (Nat.le_of_ble_eq_true rfl) tw_1762 d_X12_drop_47 rfl (wr_1_20 w) ?_
        refine aw_iload_n (i := 1) rfl d_X12_drop_50 1 rfl ?_
        obtain ⟨b35, k⟩ := k
        refine aw_iald (ws_216 w) b35 d_X12_drop_51 ?_
        refine aw_iload_n (i := 2) rfl d_X12_drop_52 2 rfl ?_
        refine aw_Vv 1 [.int (h_i h 216 x1.toNatClampNeg), .int x2] [] d_X12_drop_53 (cV_X12_miss (d + 0) 0 0) kc_12 (ws_1 w) tw_2352 rfl (rr0 (Nat.le_of_ble_eq_true rfl) (Nat.le_of_ble_eq_true rfl)) (Nat.le_of_ble_eq_true rfl) xs0 k (fun h36 kk => ?_)
        obtain ⟨w37, k⟩ := kk
        refine aw_aload_n (i := 0) rfl d_X12_drop_56 0 rfl ?_
        refine aw_getr (k0 := 20) kc_12 (ws_1 w37) (Nat.le_of_ble_eq_true rfl) tw_1762 d_X12_drop_57 rfl (wr_1_20 w37) ?_
        refine aw_iload_n (i := 1) rfl d_X12_drop_60 1 rfl ?_
        refine aw_dup2 d_X12_drop_61 ⟨rfl, rfl⟩ ?_
        obtain ⟨b39, k⟩ := k
        refine aw_iald (ws_216 w37) b39 d_X12_drop_62 ?_
        refine aw_iconst (v := 1) d_X12_drop_63 ic_1 ?_
        refine aw_iadd d_X12_drop_64 ?_
        obtain ⟨b40, k⟩ := k
        refine aw_iast (ws_216 w37) b40 d_X12_drop_65 ?_
        refine aw_goto (tgt := 0) d_X12_drop_66 rfl ?_
        exact k
