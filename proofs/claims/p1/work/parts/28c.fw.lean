theorem f_X12_path (d : Nat) (h : Hp_) (w : Wf h) (e_1_6 : h_i h 1 6 = 0)  (x1 : Int32) (x2 : Int32) (x3 : Int32) : Ci (m_X12_path (d + 2) 0 0) [.ref 1, .int x1, .int x2, .int x3] h (fun r h' => (¬ (0 ≤ x1 ∧ x1 ≤ 15) ∧ r = (-1) ∧ h' = h) ∨ ((0 ≤ x1 ∧ x1 ≤ 15) ∧ ¬ (0 ≤ x2 ∧ x2 ≤ 15) ∧ r = (-1) ∧ h' = h) ∨ ((0 ≤ x1 ∧ x1 ≤ 15) ∧ (0 ≤ x2 ∧ x2 ≤ 15) ∧ x1 = x2 ∧ r = (-1) ∧ h' = h) ∨ ((0 ≤ x1 ∧ x1 ≤ 15) ∧ (0 ≤ x2 ∧ x2 ≤ 15) ∧ ¬ x1 = x2 ∧ ¬ (1 ≤ x3 ∧ x3 ≤ 60) ∧ r = (-1) ∧ h' = h) ∨ ((0 ≤ x1 ∧ x1 ≤ 15) ∧ (0 ≤ x2 ∧ x2 ≤ 15) ∧ ¬ x1 = x2 ∧ (1 ≤ x3 ∧ x3 ≤ 60) ∧ r = 0 ∧ h' = h_im (h_im (h_im (h_im h 200 (0 : Int32).toNatClampNeg x1) 201 (0 : Int32).toNatClampNeg x2) 202 (0 : Int32).toNatClampNeg x3) 1 6 1)) := by
  refine Ct.of (fun _ _ _ => trivial) rfl (Nat.le_of_ble_eq_true rfl) ?_
  show AW (m_X12_path (d + 2) 0 0) 0 0 0 [(0, .ref 1), (1, .int x1), (2, .int x2), (3, .int x3)] [] h (kI (fun r h' => (¬ (0 ≤ x1 ∧ x1 ≤ 15) ∧ r = (-1) ∧ h' = h) ∨ ((0 ≤ x1 ∧ x1 ≤ 15) ∧ ¬ (0 ≤ x2 ∧ x2 ≤ 15) ∧ r = (-1) ∧ h' = h) ∨ ((0 ≤ x1 ∧ x1 ≤ 15) ∧ (0 ≤ x2 ∧ x2 ≤ 15) ∧ x1 = x2 ∧ r = (-1) ∧ h' = h) ∨ ((0 ≤ x1 ∧ x1 ≤ 15) ∧ (0 ≤ x2 ∧ x2 ≤ 15) ∧ ¬ x1 = x2 ∧ ¬ (1 ≤ x3 ∧ x3 ≤ 60) ∧ r = (-1) ∧ h' = h) ∨ ((0 ≤ x1 ∧ x1 ≤ 15) ∧ (0 ≤ x2 ∧ x2 ≤ 15) ∧ ¬ x1 = x2 ∧ (1 ≤ x3 ∧ x3 ≤ 60) ∧ r = 0 ∧ h' = h_im (h_im (h_im (h_im h 200 (0 : Int32).toNatClampNeg x1) 201 (0 : Int32).toNatClampNeg x2) 202 (0 : Int32).toNatClampNeg x3) 1 6 1)))
  refine aw_iload_n (i := 1) rfl d_X12_path_0 1 rfl ?_
  refine aw_Si [.int x1] [] d_X12_path_1 (cS_X12_isPlace (d + 1) 0 0) tw_2144 rfl (rr0 (Nat.le_of_ble_eq_true rfl) (Nat.le_of_ble_eq_true rfl)) (Nat.le_of_ble_eq_true rfl) xs0 (s_X12_isPlace _ _ x1) (fun _ _ kk => ?_)
  obtain ⟨e1, e2⟩ := kk
  rw [e1, e2]
  refine aw_ifb_eq (tgt := 38) d_X12_path_4 rfl (fun c3 => ?_) (fun c3 => ?_)
  · refine aw_iconst (v := (-1)) d_X12_path_38 ic_m1 ?_
    exact aw_iret rfl d_X12_path_39 ⟨Nat.le_refl _, Nat.le_refl _⟩ ⟨_, rfl, (Or.inl ⟨c3, rfl, rfl⟩)⟩
  · refine aw_iload_n (i := 2) rfl d_X12_path_7 2 rfl ?_
    refine aw_Si [.int x2] [] d_X12_path_8 (cS_X12_isPlace (d + 1) 0 0) tw_2144 rfl (rr0 (Nat.le_of_ble_eq_true rfl) (Nat.le_of_ble_eq_true rfl)) (Nat.le_of_ble_eq_true rfl) xs0 (s_X12_isPlace _ _ x2) (fun _ _ kk => ?_)
    obtain ⟨e4, e5⟩ := kk
    rw [e4, e5]
    refine aw_ifb_eq (tgt := 38) d_X12_path_11 rfl (fun c6 => ?_) (fun c6 => ?_)
    · refine aw_iconst (v := (-1)) d_X12_path_38 ic_m1 ?_
      exact aw_iret rfl d_X12_path_39 ⟨Nat.le_refl _, Nat.le_refl _⟩ ⟨_, rfl, (Or.inr (Or.inl ⟨c3, c6, rfl, rfl⟩))⟩
    · refine aw_iload_n (i := 1) rfl d_X12_path_14 1 rfl ?_
      refine aw_iload_n (i := 2) rfl d_X12_path_15 2 rfl ?_
      refine aw_icmp_eq (tgt := 38) d_X12_path_16 rfl (fun c7 => ?_) (fun c7 => ?_)
      · refine aw_iconst (v := (-1)) d_X12_path_38 ic_m1 ?_
        exact aw_iret rfl d_X12_path_39 ⟨Nat.le_refl _, Nat.le_refl _⟩ ⟨_, rfl, (Or.inr (Or.inr (Or.inl ⟨c3, c6, c7, rfl, rfl⟩)))⟩
      · refine aw_iload_n (i := 3) rfl d_X12_path_19 3 rfl ?_
        refine aw_iconst (v := 1) d_X12_path_20 ic_1 ?_
        refine aw_bipush (v := 60) d_X12_path_21 ib_60 ?_
        refine aw_Si [.int x3, .int 1, .int 60] [] d_X12_path_23 (cS_X12_in (d + 0) 0 0) tw_2147 rfl (rr0 (Nat.le_of_ble_eq_true rfl) (Nat.le_of_ble_eq_true rfl)) (Nat.le_of_ble_eq_true rfl) xs0 (s_X12_in _ _ x3 1 60) (fun _ _ kk => ?_)
        obtain ⟨e8, e9⟩ := kk
        rw [e8, e9]
        refine aw_ifb_eq (tgt := 38) d_X12_path_26 rfl (fun c10 => ?_) (fun c10 => ?_)
        · refine aw_iconst (v := (-1)) d_X12_path_38 ic_m1 ?_
          exact aw_iret rfl d_X12_path_39 ⟨Nat.le_refl _, Nat.le_refl _⟩ ⟨_, rfl, (Or.inr (Or.inr (Or.inr (Or.inl ⟨c3, c6, c7, c10, rfl, rfl⟩))))⟩
        · refine aw_aload_n (i := 0) rfl d_X12_path_29 0 rfl ?_
          refine aw_geti (k0 := 6) kc_12 (ws_1 w) (Nat.le_of_ble_eq_true rfl) tw_1748 d_X12_path_30 rfl ?_
          refine aw_vi (v2 := 0) e_1_6 ?_
          refine aw_bipush (v := 40) d_X12_path_33 ib_40 ?_
          refine aw_icmp_ne (tgt := 40) d_X12_path_35 rfl (fun _ => ?_) (fun c => absurd c (by decide))
          refine aw_aload_n (i := 0) rfl d_X12_path_40 0 rfl ?_
          refine aw_getr (k0 := 2) kc_12 (ws_1 w) (Nat.le_of_ble_eq_true rfl) tw_1744 d_X12_path_41 rfl (wr_1_2 w) ?_
          refine aw_aload_n (i := 0) rfl d_X12_path_44 0 rfl ?_
          refine aw_geti (k0 := 6) kc_12 (ws_1 w) (Nat.le_of_ble_eq_true rfl) tw_1748 d_X12_path_45 rfl ?_
          refine aw_vi (v2 := 0) e_1_6 ?_
          refine aw_iload_n (i := 1) rfl d_X12_path_48 1 rfl ?_
          refine aw_iast (ws_200 w) (vin_c (by decide)) d_X12_path_49 ?_
          refine aw_aload_n (i := 0) rfl d_X12_path_50 0 rfl ?_
          refine aw_getr (k0 := 3) kc_12 (ws_1 w) (Nat.le_of_ble_eq_true rfl) tw_1745 d_X12_path_51 rfl (wr_1_3 w) ?_
          refine aw_aload_n (i := 0) rfl d_X12_path_54 0 rfl ?_
          refine aw_geti (k0 := 6) kc_12 (ws_1 w) (Nat.le_of_ble_eq_true rfl) tw_1748 d_X12_path_55 rfl ?_
          refine aw_vi (v2 := 0) e_1_6 ?_
          refine aw_iload_n (i := 2) rfl d_X12_path_58 2 rfl ?_
          refine aw_iast (ws_201 w) (vin_c (by decide)) d_X12_path_59 ?_
          refine aw_aload_n (i := 0) rfl d_X12_path_60 0 rfl ?_
          refine aw_getr (k0 := 4) kc_12 (ws_1 w) (Nat.le_of_ble_eq_true rfl) tw_1746 d_X12_path_61 rfl (wr_1_4 w) ?_
          refine aw_aload_n (i := 0) rfl d_X12_path_64 0 rfl ?_
          refine aw_geti (k0 := 6) kc_12 (ws_1 w) (Nat.le_of_ble_eq_true rfl) tw_1748 d_X12_path_65 rfl ?_
          refine aw_vi (v2 := 0) e_1_6 ?_
          refine aw_iload_n (i := 3) rfl d_X12_path_68 3 rfl ?_
          refine aw_iast (ws_202 w) (vin_c (by decide)) d_X12_path_69 ?_
          refine aw_aload_n (i := 0) rfl d_X12_path_70 0 rfl ?_
          refine aw_dup d_X12_path_71 rfl ?_
          refine aw_geti (k0 := 6) kc_12 (ws_1 w) (Nat.le_of_ble_eq_true rfl) tw_1748 d_X12_path_72 rfl ?_
          refine aw_vi (v2 := 0) e_1_6 ?_
          refine aw_iconst (v := 1) d_X12_path_75 ic_1 ?_
          refine aw_iadd d_X12_path_76 ?_
          refine aw_vi (v2 := 1) (by decide) ?_
          refine aw_puti (k0 := 6) kc_12 (ws_1 w) (Nat.le_of_ble_eq_true rfl) tw_1748 d_X12_path_77 rfl rfl nf_i ?_
          refine aw_aload_n (i := 0) rfl d_X12_path_80 0 rfl ?_
          refine aw_geti (k0 := 6) kc_12 (ws_1 w) (Nat.le_of_ble_eq_true rfl) tw_1748 d_X12_path_81 rfl ?_
          refine aw_vi (v2 := 1) rfl ?_
          refine aw_iconst (v := 1) d_X12_path_84 ic_1 ?_
          refine aw_isub d_X12_path_85 ?_
          refine aw_vi (v2 := 0) (by decide) ?_
          exact aw_iret rfl d_X12_path_86 ⟨Nat.le_refl _, Nat.le_refl _⟩ ⟨_, rfl, (Or.inr (Or.inr (Or.inr (Or.inr ⟨c3, c6, c7, c10, rfl, rfl⟩))))⟩
theorem f_X12_constable (d : Nat) (h : Hp_) (w : Wf h) (e_1_0 : h_i h 1 0 = 0) (e_1_7 : h_i h 1 7 = 0)  (x1 : Int32) (x2 : Int32) (x3 : Int32) : Ci (m_X12_constable (d + 2) 0 0) [.ref 1, .int x1, .int x2, .int x3] h (fun r h' => (¬ (1 ≤ x1 ∧ x1 ≤ 4) ∧ r = (-1) ∧ h' = h) ∨ ((1 ≤ x1 ∧ x1 ≤ 4) ∧ ¬ (0 ≤ x2 ∧ x2 ≤ 40) ∧ r = (-1) ∧ h' = h) ∨ ((1 ≤ x1 ∧ x1 ≤ 4) ∧ (0 ≤ x2 ∧ x2 ≤ 40) ∧ ¬ (0 ≤ x3 ∧ x3 ≤ 15) ∧ r = (-1) ∧ h' = h) ∨ ((1 ≤ x1 ∧ x1 ≤ 4) ∧ (0 ≤ x2 ∧ x2 ≤ 40) ∧ (0 ≤ x3 ∧ x3 ≤ 15) ∧ r = 0 ∧ h' = h_im (h_im (h_im (h_im (h_im (h_im (h_im (h_im (h_im (h_im (h_im (h_im (h_im h 204 (0 : Int32).toNatClampNeg x1) 205 (0 : Int32).toNatClampNeg x2) 206 (0 : Int32).toNatClampNeg x3) 207 (0 : Int32).toNatClampNeg 0) 208 (0 : Int32).toNatClampNeg 0) 209 (0 : Int32).toNatClampNeg x3) 210 (0 : Int32).toNatClampNeg (-1)) 211 (0 : Int32).toNatClampNeg (-1)) 213 (0 : Int32).toNatClampNeg (-1)) 215 (0 : Int32).toNatClampNeg 0) 216 (0 : Int32).toNatClampNeg 0) 217 (0 : Int32).toNatClampNeg 0) 1 7 1)) := by
  refine Ct.of (fun _ _ _ => trivial) rfl (Nat.le_of_ble_eq_true rfl) ?_
  show AW (m_X12_constable (d + 2) 0 0) 0 0 0 [(0, .ref 1), (1, .int x1), (2, .int x2), (3, .int x3)] [] h (kI (fun r h' => (¬ (1 ≤ x1 ∧ x1 ≤ 4) ∧ r = (-1) ∧ h' = h) ∨ ((1 ≤ x1 ∧ x1 ≤ 4) ∧ ¬ (0 ≤ x2 ∧ x2 ≤ 40) ∧ r = (-1) ∧ h' = h) ∨ ((1 ≤ x1 ∧ x1 ≤ 4) ∧ (0 ≤ x2 ∧ x2 ≤ 40) ∧ ¬ (0 ≤ x3 ∧ x3 ≤ 15) ∧ r = (-1) ∧ h' = h) ∨ ((1 ≤ x1 ∧ x1 ≤ 4) ∧ (0 ≤ x2 ∧ x2 ≤ 40) ∧ (0 ≤ x3 ∧ x3 ≤ 15) ∧ r = 0 ∧ h' = h_im (h_im (h_im (h_im (h_im (h_im (h_im (h_im (h_im (h_im (h_im (h_im (h_im h 204 (0 : Int32).toNatClampNeg x1) 205 (0 : Int32).toNatClampNeg x2) 206 (0 : Int32).toNatClampNeg x3) 207 (0 : Int32).toNatClampNeg 0) 208 (0 : Int32).toNatClampNeg 0) 209 (0 : Int32).toNatClampNeg x3) 210 (0 : Int32).toNatClampNeg (-1)) 211 (0 : Int32).toNatClampNeg (-1)) 213 (0 : Int32).toNatClampNeg (-1)) 215 (0 : Int32).toNatClampNeg 0) 216 (0 : Int32).toNatClampNeg 0) 217 (0 : Int32).toNatClampNeg 0) 1 7 1)))
  refine aw_iload_n (i := 1) rfl d_X12_constable_0 1 rfl ?_
  refine aw_iconst (v := 1) d_X12_constable_1 ic_1 ?_
  refine aw_iconst (v := 4) d_X12_constable_2 ic_4 ?_
  refine aw_Si [.int x1, .int 1, .int 4] [] d_X12_constable_3 (cS_X12_in (d + 0) 0 0) tw_2147 rfl (rr0 (Nat.le_of_ble_eq_true rfl) (Nat.le_of_ble_eq_true rfl)) (Nat.le_of_ble_eq_true rfl) xs0 (s_X12_in _ _ x1 1 4) (fun _ _ kk => ?_)
  obtain ⟨e1, e2⟩ := kk
  rw [e1, e2]
  refine aw_ifb_eq (tgt := 35) d_X12_constable_6 rfl (fun c3 => ?_) (fun c3 => ?_)
  · refine aw_iconst (v := (-1)) d_X12_constable_35 ic_m1 ?_
    exact aw_iret rfl d_X12_constable_36 ⟨Nat.le_refl _, Nat.le_refl _⟩ ⟨_, rfl, (Or.inl ⟨c3, rfl, rfl⟩)⟩
  · refine aw_iload_n (i := 2) rfl d_X12_constable_9 2 rfl ?_
    refine aw_iconst (v := 0) d_X12_constable_10 ic_0 ?_
    refine aw_bipush (v := 40) d_X12_constable_11 ib_40 ?_
    refine aw_Si [.int x2, .int 0, .int 40] [] d_X12_constable_13 (cS_X12_in (d + 0) 0 0) tw_2147 rfl (rr0 (Nat.le_of_ble_eq_true rfl) (Nat.le_of_ble_eq_true rfl)) (Nat.le_of_ble_eq_true rfl) xs0 (s_X12_in _ _ x2 0 40) (fun _ _ kk => ?_)
    obtain ⟨e4, e5⟩ := kk
    rw [e4, e5]
    refine aw_ifb_eq (tgt := 35) d_X12_constable_16 rfl (fun c6 => ?_) (fun c6 => ?_)
    · refine aw_iconst (v := (-1)) d_X12_constable_35 ic_m1 ?_
      exact aw_iret rfl d_X12_constable_36 ⟨Nat.le_refl _, Nat.le_refl _⟩ ⟨_, rfl, (Or.inr (Or.inl ⟨c3, c6, rfl, rfl⟩))⟩
    · refine aw_iload_n (i := 3) rfl d_X12_constable_19 3 rfl ?_
      refine aw_Si [.int x3] [] d_X12_constable_20 (cS_X12_isPlace (d + 1) 0 0) tw_2144 rfl (rr0 (Nat.le_of_ble_eq_true rfl) (Nat.le_of_ble_eq_true rfl)) (Nat.le_of_ble_eq_true rfl) xs0 (s_X12_isPlace _ _ x3) (fun _ _ kk => ?_)
      obtain ⟨e7, e8⟩ := kk
      rw [e7, e8]
      refine aw_ifb_eq (tgt := 35) d_X12_constable_23 rfl (fun c9 => ?_) (fun c9 => ?_)
      · refine aw_iconst (v := (-1)) d_X12_constable_35 ic_m1 ?_
        exact aw_iret rfl d_X12_constable_36 ⟨Nat.le_refl _, Nat.le_refl _⟩ ⟨_, rfl, (Or.inr (Or.inr (Or.inl ⟨c3, c6, c9, rfl, rfl⟩)))⟩
      · refine aw_aload_n (i := 0) rfl d_X12_constable_26 0 rfl ?_
        refine aw_geti (k0 := 7) kc_12 (ws_1 w) (Nat.le_of_ble_eq_true rfl) tw_1749 d_X12_constable_27 rfl ?_
        refine aw_vi (v2 := 0) e_1_7 ?_
        refine aw_bipush (v := 12) d_X12_constable_30 ib_12 ?_
        refine aw_icmp_ne (tgt := 37) d_X12_constable_32 rfl (fun _ => ?_) (fun c => absurd c (by decide))
        refine aw_aload_n (i := 0) rfl d_X12_constable_37 0 rfl ?_
        refine aw_getr (k0 := 8) kc_12 (ws_1 w) (Nat.le_of_ble_eq_true rfl) tw_1750 d_X12_constable_38 rfl (wr_1_8 w) ?_
        refine aw_aload_n (i := 0) rfl d_X12_constable_41 0 rfl ?_
        refine aw_geti (k0 := 7) kc_12 (ws_1 w) (Nat.le_of_ble_eq_true rfl) tw_1749 d_X12_constable_42 rfl ?_
        refine aw_vi (v2 := 0) e_1_7 ?_
        refine aw_iload_n (i := 1) rfl d_X12_constable_45 1 rfl ?_
        refine aw_iast (ws_204 w) (vin_c (by decide)) d_X12_constable_46 ?_
        refine aw_aload_n (i := 0) rfl d_X12_constable_47 0 rfl ?_
        refine aw_getr (k0 := 9) kc_12 (ws_1 w) (Nat.le_of_ble_eq_true rfl) tw_1751 d_X12_constable_48 rfl (wr_1_9 w) ?_
        refine aw_aload_n (i := 0) rfl d_X12_constable_51 0 rfl ?_
        refine aw_geti (k0 := 7) kc_12 (ws_1 w) (Nat.le_of_ble_eq_true rfl) tw_1749 d_X12_constable_52 rfl ?_
        refine aw_vi (v2 := 0) e_1_7 ?_
        refine aw_iload_n (i := 2) rfl d_X12_constable_55 2 rfl ?_
        refine aw_iast (ws_205 w) (vin_c (by decide)) d_X12_constable_56 ?_
        refine aw_aload_n (i := 0) rfl d_X12_constable_57 0 rfl ?_
        refine aw_getr (k0 := 10) kc_12 (ws_1 w) (Nat.le_of_ble_eq_true rfl) tw_1752 d_X12_constable_58 rfl (wr_1_10 w) ?_
        refine aw_aload_n (i := 0) rfl d_X12_constable_61 0 rfl ?_
        refine aw_geti (k0 := 7) kc_12 (ws_1 w) (Nat.le_of_ble_eq_true rfl) tw_1749 d_X12_constable_62 rfl ?_
        refine aw_vi (v2 := 0) e_1_7 ?_
        refine aw_iload_n (i := 3) rfl d_X12_constable_65 3 rfl ?_
        refine aw_iast (ws_206 w) (vin_c (by decide)) d_X12_constable_66 ?_
        refine aw_aload_n (i := 0) rfl d_X12_constable_67 0 rfl ?_
        refine aw_getr (k0 := 11) kc_12 (ws_1 w) (Nat.le_of_ble_eq_true rfl) tw_1753 d_X12_constable_68 rfl (wr_1_11 w) ?_
        refine aw_aload_n (i := 0) rfl d_X12_constable_71 0 rfl ?_
        refine aw_geti (k0 := 7) kc_12 (ws_1 w) (Nat.le_of_ble_eq_true rfl) tw_1749 d_X12_constable_72 rfl ?_
        refine aw_vi (v2 := 0) e_1_7 ?_
        refine aw_aload_n (i := 0) rfl d_X12_constable_75 0 rfl ?_
        refine aw_geti (k0 := 0) kc_12 (ws_1 w) (Nat.le_of_ble_eq_true rfl) tw_1742 d_X12_constable_76 rfl ?_
        refine aw_vi (v2 := 0) e_1_0 ?_
        refine aw_iast (ws_207 w) (vin_c (by decide)) d_X12_constable_79 ?_
        refine aw_aload_n (i := 0) rfl d_X12_constable_80 0 rfl ?_
        refine aw_getr (k0 := 12) kc_12 (ws_1 w) (Nat.le_of_ble_eq_true rfl) tw_1754 d_X12_constable_81 rfl (wr_1_12 w) ?_
        refine aw_aload_n (i := 0) rfl d_X12_constable_84 0 rfl ?_
        refine aw_geti (k0 := 7) kc_12 (ws_1 w) (Nat.le_of_ble_eq_true rfl) tw_1749 d_X12_constable_85 rfl ?_
        refine aw_vi (v2 := 0) e_1_7 ?_
        refine aw_iconst (v := 0) d_X12_constable_88 ic_0 ?_
        refine aw_iast (ws_208 w) (vin_c (by decide)) d_X12_constable_89 ?_
        refine aw_aload_n (i := 0) rfl d_X12_constable_90 0 rfl ?_
        refine aw_getr (k0 := 13) kc_12 (ws_1 w) (Nat.le_of_ble_eq_true rfl) tw_1755 d_X12_constable_91 rfl (wr_1_13 w) ?_
        refine aw_aload_n (i := 0) rfl d_X12_constable_94 0 rfl ?_
        refine aw_geti (k0 := 7) kc_12 (ws_1 w) (Nat.le_of_ble_eq_true rfl) tw_1749 d_X12_constable_95 rfl ?_
        refine aw_vi (v2 := 0) e_1_7 ?_
        refine aw_iload_n (i := 3) rfl d_X12_constable_98 3 rfl ?_
        refine aw_iast (ws_209 w) (vin_c (by decide)) d_X12_constable_99 ?_
        refine aw_aload_n (i := 0) rfl d_X12_constable_100 0 rfl ?_
        refine aw_getr (k0 := 14) kc_12 (ws_1 w) (Nat.le_of_ble_eq_true rfl) tw_1756 d_X12_constable_101 rfl (wr_1_14 w) ?_
        refine aw_aload_n (i := 0) rfl d_X12_constable_104 0 rfl ?_
        refine aw_geti (k0 := 7) kc_12 (ws_1 w) (Nat.le_of_ble_eq_true rfl) tw_1749 d_X12_constable_105 rfl ?_
        refine aw_vi (v2 := 0) e_1_7 ?_
        refine aw_iconst (v := (-1)) d_X12_constable_108 ic_m1 ?_
        refine aw_iast (ws_210 w) (vin_c (by decide)) d_X12_constable_109 ?_
        refine aw_aload_n (i := 0) rfl d_X12_constable_110 0 rfl ?_
        refine aw_getr (k0 := 15) kc_12 (ws_1 w) (Nat.le_of_ble_eq_true rfl) tw_1757 d_X12_constable_111 rfl (wr_1_15 w) ?_
        refine aw_aload_n (i := 0) rfl d_X12_constable_114 0 rfl ?_
        refine aw_geti (k0 := 7) kc_12 (ws_1 w) (Nat.le_of_ble_eq_true rfl) tw_1749 d_X12_constable_115 rfl ?_
        refine aw_vi (v2 := 0) e_1_7 ?_
        refine aw_iconst (v := (-1)) d_X12_constable_118 ic_m1 ?_
        refine aw_iast (ws_211 w) (vin_c (by decide)) d_X12_constable_119 ?_
        refine aw_aload_n (i := 0) rfl d_X12_constable_120 0 rfl ?_
        refine aw_getr (k0 := 17) kc_12 (ws_1 w) (Nat.le_of_ble_eq_true rfl) tw_1759 d_X12_constable_121 rfl (wr_1_17 w) ?_
        refine aw_aload_n (i := 0) rfl d_X12_constable_124 0 rfl ?_
        refine aw_geti (k0 := 7) kc_12 (ws_1 w) (Nat.le_of_ble_eq_true rfl) tw_1749 d_X12_constable_125 rfl ?_
        refine aw_vi (v2 := 0) e_1_7 ?_
        refine aw_iconst (v := (-1)) d_X12_constable_128 ic_m1 ?_
        refine aw_iast (ws_213 w) (vin_c (by decide)) d_X12_constable_129 ?_
        refine aw_aload_n (i := 0) rfl d_X12_constable_130 0 rfl ?_
        refine aw_getr (k0 := 19) kc_12 (ws_1 w) (Nat.le_of_ble_eq_true rfl) tw_1761 d_X12_constable_131 rfl (wr_1_19 w) ?_
        refine aw_aload_n (i := 0) rfl d_X12_constable_134 0 rfl ?_
        refine aw_geti (k0 := 7) kc_12 (ws_1 w) (Nat.le_of_ble_eq_true rfl) tw_1749 d_X12_constable_135 rfl ?_
        refine aw_vi (v2 := 0) e_1_7 ?_
        refine aw_iconst (v := 0) d_X12_constable_138 ic_0 ?_
        refine aw_iast (ws_215 w) (vin_c (by decide)) d_X12_constable_139 ?_
        refine aw_aload_n (i := 0) rfl d_X12_constable_140 0 rfl ?_
        refine aw_getr (k0 := 20) kc_12 (ws_1 w) (Nat.le_of_ble_eq_true rfl) tw_1762 d_X12_constable_141 rfl (wr_1_20 w) ?_
        refine aw_aload_n (i := 0) rfl d_X12_constable_144 0 rfl ?_
        refine aw_geti (k0 := 7) kc_12 (ws_1 w) (Nat.le_of_ble_eq_true rfl) tw_1749 d_X12_constable_145 rfl ?_
        refine aw_vi (v2 := 0) e_1_7 ?_
        refine aw_iconst (v := 0) d_X12_constable_148 ic_0 ?_
        refine aw_iast (ws_216 w) (vin_c (by decide)) d_X12_constable_149 ?_
        refine aw_aload_n (i := 0) rfl d_X12_constable_150 0 rfl ?_
        refine aw_getr (k0 := 21) kc_12 (ws_1 w) (Nat.le_of_ble_eq_true rfl) tw_1763 d_X12_constable_151 rfl (wr_1_21 w) ?_
        refine aw_aload_n (i := 0) rfl d_X12_constable_154 0 rfl ?_
        refine aw_geti (k0 := 7) kc_12 (ws_1 w) (Nat.le_of_ble_eq_true rfl) tw_1749 d_X12_constable_155 rfl ?_
        refine aw_vi (v2 := 0) e_1_7 ?_
        refine aw_iconst (v := 0) d_X12_constable_158 ic_0 ?_
        refine aw_iast (ws_217 w) (vin_c (by decide)) d_X12_constable_159 ?_
        refine aw_aload_n (i := 0) rfl d_X12_constable_160 0 rfl ?_
        refine aw_dup d_X12_constable_161 rfl ?_
        refine aw_geti (k0 := 7) kc_12 (ws_1 w) (Nat.le_of_ble_eq_true rfl) tw_1749 d_X12_constable_162 rfl ?_
        refine aw_vi (v2 := 0) e_1_7 ?_
        refine aw_iconst (v := 1) d_X12_constable_165 ic_1 ?_
        refine aw_iadd d_X12_constable_166 ?_
        refine aw_vi (v2 := 1) (by decide) ?_
        refine aw_puti (k0 := 7) kc_12 (ws_1 w) (Nat.le_of_ble_eq_true rfl) tw_1749 d_X12_constable_167 rfl rfl nf_i ?_
        refine aw_aload_n (i := 0) rfl d_X12_constable_170 0 rfl ?_
        refine aw_geti (k0 := 7) kc_12 (ws_1 w) (Nat.le_of_ble_eq_true rfl) tw_1749 d_X12_constable_171 rfl ?_
        refine aw_vi (v2 := 1) rfl ?_
        refine aw_iconst (v := 1) d_X12_constable_174 ic_1 ?_
        refine aw_isub d_X12_constable_175 ?_
        refine aw_vi (v2 := 0) (by decide) ?_
        exact aw_iret rfl d_X12_constable_176 ⟨Nat.le_refl _, Nat.le_refl _⟩ ⟨_, rfl, (Or.inr (Or.inr (Or.inr ⟨c3, c6, c9, rfl, rfl⟩)))⟩
theorem f_X12_end (d : Nat) (h : Hp_) (w : Wf h) (e_1_32 : h_i h 1 32 = 0)  (x1 : Int32) : Ci (m_X12_end (d + 0) 0 0) [.ref 1, .int x1] h (fun r h' => (x1 < 0 ∧ r = 0 ∧ h' = h) ∨ (¬ x1 < 0 ∧ x1 ≤ 0 ∧ r = 1 ∧ h' = h_im h 1 32 x1) ∨ (¬ x1 < 0 ∧ ¬ x1 ≤ 0 ∧ r = 0 ∧ h' = h)) := by
  refine Ct.of (fun _ _ _ => trivial) rfl (Nat.le_of_ble_eq_true rfl) ?_
  show AW (m_X12_end (d + 0) 0 0) 0 0 0 [(0, .ref 1), (1, .int x1)] [] h (kI (fun r h' => (x1 < 0 ∧ r = 0 ∧ h' = h) ∨ (¬ x1 < 0 ∧ x1 ≤ 0 ∧ r = 1 ∧ h' = h_im h 1 32 x1) ∨ (¬ x1 < 0 ∧ ¬ x1 ≤ 0 ∧ r = 0 ∧ h' = h)))
  refine aw_iload_n (i := 1) rfl d_X12_end_0 1 rfl ?_
  refine aw_if_lt (tgt := 12) d_X12_end_1 rfl (fun c1 => ?_) (fun c1 => ?_)
  · refine aw_iconst (v := 0) d_X12_end_12 ic_0 ?_
    exact aw_zret rfl rfl d_X12_end_13 ⟨Nat.le_refl _, Nat.le_refl _⟩ ⟨_, rfl, (Or.inl ⟨c1, rfl, rfl⟩)⟩
  · refine aw_iload_n (i := 1) rfl d_X12_end_4 1 rfl ?_
    refine aw_aload_n (i := 0) rfl d_X12_end_5 0 rfl ?_
    refine aw_geti (k0 := 32) kc_12 (ws_1 w) (Nat.le_of_ble_eq_true rfl) tw_1774 d_X12_end_6 rfl ?_
    refine aw_vi (v2 := 0) e_1_32 ?_
    refine aw_icmp_le (tgt := 14) d_X12_end_9 rfl (fun c2 => ?_) (fun c2 => ?_)
    · refine aw_aload_n (i := 0) rfl d_X12_end_14 0 rfl ?_
      refine aw_iload_n (i := 1) rfl d_X12_end_15 1 rfl ?_
      refine aw_puti (k0 := 32) kc_12 (ws_1 w) (Nat.le_of_ble_eq_true rfl) tw_1774 d_X12_end_16 rfl rfl nf_i ?_
      refine aw_iconst (v := 1) d_X12_end_19 ic_1 ?_
      exact aw_zret rfl rfl d_X12_end_20 ⟨Nat.le_refl _, Nat.le_refl _⟩ ⟨_, rfl, (Or.inr (Or.inl ⟨c1, c2, rfl, rfl⟩))⟩
    · refine aw_iconst (v := 0) d_X12_end_12 ic_0 ?_
      exact aw_zret rfl rfl d_X12_end_13 ⟨Nat.le_refl _, Nat.le_refl _⟩ ⟨_, rfl, (Or.inr (Or.inr ⟨c1, c2, rfl, rfl⟩))⟩
theorem f_X12_look_112 (d : Nat) (h : Hp_) (w : Wf h) (e_1_32 : h_i h 1 32 = 0) (e_1_33 : h_i h 1 33 = 0)   : Ci (m_X12_look (d + 0) 0 0) [.ref 1] h (fun r h' => (r = (-1) ∧ h' = h)) := by
  refine Ct.of (fun _ _ _ => trivial) rfl (Nat.le_of_ble_eq_true rfl) ?_
  show AW (m_X12_look (d + 0) 0 0) 0 0 0 [(0, .ref 1)] [] h (kI (fun r h' => (r = (-1) ∧ h' = h)))
  refine aw_aload_n (i := 0) rfl d_X12_look_0 0 rfl ?_
  refine aw_geti (k0 := 33) kc_12 (ws_1 w) (Nat.le_of_ble_eq_true rfl) tw_1775 d_X12_look_1 rfl ?_
  refine aw_vi (v2 := 0) e_1_33 ?_
  refine aw_aload_n (i := 0) rfl d_X12_look_4 0 rfl ?_
  refine aw_geti (k0 := 32) kc_12 (ws_1 w) (Nat.le_of_ble_eq_true rfl) tw_1774 d_X12_look_5 rfl ?_
  refine aw_vi (v2 := 0) e_1_32 ?_
  refine aw_icmp_ge (tgt := 38) d_X12_look_8 rfl (fun _ => ?_) (fun c => absurd c (by decide))
  refine aw_aload_n (i := 0) rfl d_X12_look_38 0 rfl ?_
  refine aw_geti (k0 := 33) kc_12 (ws_1 w) (Nat.le_of_ble_eq_true rfl) tw_1775 d_X12_look_39 rfl ?_
  refine aw_vi (v2 := 0) e_1_33 ?_
  refine aw_aload_n (i := 0) rfl d_X12_look_42 0 rfl ?_
  refine aw_geti (k0 := 32) kc_12 (ws_1 w) (Nat.le_of_ble_eq_true rfl) tw_1774 d_X12_look_43 rfl ?_
  refine aw_vi (v2 := 0) e_1_32 ?_
  refine aw_icmp_ge (tgt := 61) d_X12_look_46 rfl (fun _ => ?_) (fun c => absurd c (by decide))
  refine aw_iconst (v := (-1)) d_X12_look_61 ic_m1 ?_
  exact aw_iret rfl d_X12_look_62 ⟨Nat.le_refl _, Nat.le_refl _⟩ ⟨_, rfl, ⟨rfl, rfl⟩⟩
theorem f_X12_bad_113 (d : Nat) (h : Hp_) (w : Wf h) (e_1_33 : h_i h 1 33 = 0) (e_1_34 : h_i h 1 34 = (-1))   : Cv (m_X12_bad (d + 0) 0 0) [.ref 1] h (fun h' => (h' = h_im h 1 34 0)) := by
  refine Ct.of (fun _ _ _ => trivial) rfl (Nat.le_of_ble_eq_true rfl) ?_
  show AW (m_X12_bad (d + 0) 0 0) 0 0 0 [(0, .ref 1)] [] h (kV (fun h' => (h' = h_im h 1 34 0)))
  refine aw_aload_n (i := 0) rfl d_X12_bad_0 0 rfl ?_
  refine aw_aload_n (i := 0) rfl d_X12_bad_1 0 rfl ?_
  refine aw_geti (k0 := 34) kc_12 (ws_1 w) (Nat.le_of_ble_eq_true rfl) tw_1776 d_X12_bad_2 rfl ?_
  refine aw_vi (v2 := (-1)) e_1_34 ?_
  refine aw_iconst (v := (-1)) d_X12_bad_5 ic_m1 ?_
  refine aw_icmp_ne (tgt := 16) d_X12_bad_6 rfl (fun c => absurd c (by decide)) (fun _ => ?_)
  refine aw_aload_n (i := 0) rfl d_X12_bad_9 0 rfl ?_
  refine aw_geti (k0 := 33) kc_12 (ws_1 w) (Nat.le_of_ble_eq_true rfl) tw_1775 d_X12_bad_10 rfl ?_
  refine aw_vi (v2 := 0) e_1_33 ?_
  refine aw_goto (tgt := 20) d_X12_bad_13 rfl ?_
  refine aw_puti (k0 := 34) kc_12 (ws_1 w) (Nat.le_of_ble_eq_true rfl) tw_1776 d_X12_bad_20 rfl rfl nf_i ?_
  exact aw_vret rfl d_X12_bad_23 ⟨Nat.le_refl _, Nat.le_refl _⟩ ⟨rfl, rfl⟩
theorem f_X12_stepRead_114 (d : Nat) (h : Hp_) (w : Wf h) (e_1_32 : h_i h 1 32 = 0) (e_1_33 : h_i h 1 33 = 0) (e_1_34 : h_i h 1 34 = (-1))   : Cv (m_X12_stepRead (d + 1) 0 0) [.ref 1] h (fun h' => (h' = h_im h 1 34 0)) := by
  refine Ct.of (fun _ _ _ => trivial) rfl (Nat.le_of_ble_eq_true rfl) ?_
  show AW (m_X12_stepRead (d + 1) 0 0) 0 0 0 [(0, .ref 1)] [] h (kV (fun h' => (h' = h_im h 1 34 0)))
  refine aw_aload_n (i := 0) rfl d_X12_stepRead_0 0 rfl ?_
  refine aw_Vi 1 [] [] d_X12_stepRead_1 (cV_X12_look (d + 0) 0 0) kc_12 (ws_1 w) tw_2210 rfl (rr0 (Nat.le_of_ble_eq_true rfl) (Nat.le_of_ble_eq_true rfl)) (Nat.le_of_ble_eq_true rfl) xs0 (f_X12_look_112 d h w e_1_32 e_1_33 ) (fun r1 h2 kk => ?_)
  obtain ⟨ez8, ez9⟩ := kk
  obtain rfl := ez8.symm
  obtain rfl := ez9.symm
  refine aw_istore_n (i := 1) rfl [(0, .ref 1), (1, .int (-1))] d_X12_stepRead_4 (Nat.le_of_ble_eq_true rfl) rfl rfl ?_
  refine aw_iload_n (i := 1) rfl d_X12_stepRead_5 1 rfl ?_
  refine aw_bipush (v := 103) d_X12_stepRead_6 ib_103 ?_
  refine aw_icmp_ne (tgt := 40) d_X12_stepRead_8 rfl (fun _ => ?_) (fun c => absurd c (by decide))
  refine aw_iload_n (i := 1) rfl d_X12_stepRead_40 1 rfl ?_
  refine aw_bipush (v := 119) d_X12_stepRead_41 ib_119 ?_
  refine aw_icmp_ne (tgt := 76) d_X12_stepRead_43 rfl (fun _ => ?_) (fun c => absurd c (by decide))
  refine aw_iload_n (i := 1) rfl d_X12_stepRead_76 1 rfl ?_
  refine aw_bipush (v := 112) d_X12_stepRead_77 ib_112 ?_
  refine aw_icmp_ne (tgt := 131) d_X12_stepRead_79 rfl (fun _ => ?_) (fun c => absurd c (by decide))
  refine aw_iload_n (i := 1) rfl d_X12_stepRead_131 1 rfl ?_
  refine aw_bipush (v := 108) d_X12_stepRead_132 ib_108 ?_
  refine aw_icmp_ne (tgt := 155) d_X12_stepRead_134 rfl (fun _ => ?_) (fun c => absurd c (by decide))
  refine aw_iload_n (i := 1) rfl d_X12_stepRead_155 1 rfl ?_
  refine aw_bipush (v := 40) d_X12_stepRead_156 ib_40 ?_
  refine aw_icmp_ne (tgt := 266) d_X12_stepRead_158 rfl (fun _ => ?_) (fun c => absurd c (by decide))
  refine aw_aload_n (i := 0) rfl d_X12_stepRead_266 0 rfl ?_
  refine aw_Vv 1 [] [] d_X12_stepRead_267 (cV_X12_bad (d + 0) 0 0) kc_12 (ws_1 w) tw_2229 rfl (rr0 (Nat.le_of_ble_eq_true rfl) (Nat.le_of_ble_eq_true rfl)) (Nat.le_of_ble_eq_true rfl) xs0 (f_X12_bad_113 d h w e_1_33 e_1_34 ) (fun h9 kk => ?_)
  have ez9 := kk
  obtain rfl := ez9.symm
  exact aw_vret rfl d_X12_stepRead_270 ⟨Nat.le_refl _, Nat.le_refl _⟩ ⟨rfl, rfl⟩
theorem f_X12_stepsRead_115 (d : Nat) (h : Hp_) (w : Wf h) (e_1_32 : h_i h 1 32 = 0) (e_1_33 : h_i h 1 33 = 0) (e_1_34 : h_i h 1 34 = (-1))   : Cv (m_X12_stepsRead (d + 2) 0 0) [.ref 1] h (fun h' => (h' = h_im h 1 34 0)) := by
  refine Ct.of (fun _ _ _ => trivial) rfl (Nat.le_of_ble_eq_true rfl) ?_
  show AW (m_X12_stepsRead (d + 2) 0 0) 0 0 0 [(0, .ref 1)] [] h (kV (fun h' => (h' = h_im h 1 34 0)))
  refine aw_aload_n (i := 0) rfl d_X12_stepsRead_0 0 rfl ?_
  refine aw_Vv 1 [] [] d_X12_stepsRead_1 (cV_X12_stepRead (d + 1) 0 0) kc_12 (ws_1 w) tw_2206 rfl (rr0 (Nat.le_of_ble_eq_true rfl) (Nat.le_of_ble_eq_true rfl)) (Nat.le_of_ble_eq_true rfl) xs0 (f_X12_stepRead_114 d h w e_1_32 e_1_33 e_1_34 ) (fun h2 kk => ?_)
  have ez9 := kk
  obtain rfl := ez9.symm
  refine aw_aload_n (i := 0) rfl d_X12_stepsRead_4 0 rfl ?_
  refine aw_geti (k0 := 34) kc_12 (ws_1 w) (Nat.le_of_ble_eq_true rfl) tw_1776 d_X12_stepsRead_5 rfl ?_
  refine aw_vi (v2 := 0) rfl ?_
  refine aw_iconst (v := (-1)) d_X12_stepsRead_8 ic_m1 ?_
  refine aw_icmp_ne (tgt := 38) d_X12_stepsRead_9 rfl (fun _ => ?_) (fun c => absurd c (by decide))
  exact aw_vret rfl d_X12_stepsRead_38 ⟨Nat.le_refl _, Nat.le_refl _⟩ ⟨rfl, rfl⟩
theorem f_X12_fault_116 (d : Nat) (h : Hp_) (w : Wf h) (e_1_32 : h_i h 1 32 = 0)   : Ci (m_X12_fault (d + 3) 0 0) [.ref 1, .int 0] h (fun r h' => (r = 0 ∧ h' = h_im (h_im (h_im (h_im (h_im (h_im h 1 37 0) 1 33 0) 1 34 (-1)) 1 35 0) 1 36 0) 1 34 0)) := by
  refine Ct.of (fun _ _ _ => trivial) rfl (Nat.le_of_ble_eq_true rfl) ?_
  show AW (m_X12_fault (d + 3) 0 0) 0 0 0 [(0, .ref 1), (1, .int 0)] [] h (kI (fun r h' => (r = 0 ∧ h' = h_im (h_im (h_im (h_im (h_im (h_im h 1 37 0) 1 33 0) 1 34 (-1)) 1 35 0) 1 36 0) 1 34 0)))
  refine aw_iload_n (i := 1) rfl d_X12_fault_0 1 rfl ?_
  refine aw_iconst (v := 0) d_X12_fault_1 ic_0 ?_
  refine aw_iconst (v := 2) d_X12_fault_2 ic_2 ?_
  refine aw_Si [.int 0, .int 0, .int 2] [] d_X12_fault_3 (cS_X12_in (d + 0) 0 0) tw_2147 rfl (rr0 (Nat.le_of_ble_eq_true rfl) (Nat.le_of_ble_eq_true rfl)) (Nat.le_of_ble_eq_true rfl) xs0 (s_X12_in _ _ 0 0 2) (fun _ _ kk => ?_)
  obtain ⟨e1, e2⟩ := kk
  rw [e1, e2]
  refine aw_vi (v2 := 1) (by decide) ?_
  refine aw_if_ne (tgt := 12) d_X12_fault_6 rfl (fun _ => ?_) (fun c => absurd c (by decide))
  refine aw_aload_n (i := 0) rfl d_X12_fault_12 0 rfl ?_
  refine aw_iload_n (i := 1) rfl d_X12_fault_13 1 rfl ?_
  refine aw_puti (k0 := 37) kc_12 (ws_1 w) (Nat.le_of_ble_eq_true rfl) tw_1779 d_X12_fault_14 rfl rfl nf_i ?_
  refine aw_aload_n (i := 0) rfl d_X12_fault_17 0 rfl ?_
  refine aw_iconst (v := 0) d_X12_fault_18 ic_0 ?_
  refine aw_puti (k0 := 33) kc_12 (ws_1 w) (Nat.le_of_ble_eq_true rfl) tw_1775 d_X12_fault_19 rfl rfl nf_i ?_
  refine aw_aload_n (i := 0) rfl d_X12_fault_22 0 rfl ?_
  refine aw_iconst (v := (-1)) d_X12_fault_23 ic_m1 ?_
  refine aw_puti (k0 := 34) kc_12 (ws_1 w) (Nat.le_of_ble_eq_true rfl) tw_1776 d_X12_fault_24 rfl rfl nf_i ?_
  refine aw_aload_n (i := 0) rfl d_X12_fault_27 0 rfl ?_
  refine aw_iconst (v := 0) d_X12_fault_28 ic_0 ?_
  refine aw_puti (k0 := 35) kc_12 (ws_1 w) (Nat.le_of_ble_eq_true rfl) tw_1777 d_X12_fault_29 rfl rfl nf_i ?_
  refine aw_aload_n (i := 0) rfl d_X12_fault_32 0 rfl ?_
  refine aw_iconst (v := 0) d_X12_fault_33 ic_0 ?_
  refine aw_puti (k0 := 36) kc_12 (ws_1 w) (Nat.le_of_ble_eq_true rfl) tw_1778 d_X12_fault_34 rfl rfl nf_i ?_
  refine aw_iload_n (i := 1) rfl d_X12_fault_37 1 rfl ?_
  refine aw_if_ne (tgt := 48) d_X12_fault_38 rfl (fun c => absurd c (by decide)) (fun _ => ?_)
  refine aw_aload_n (i := 0) rfl d_X12_fault_41 0 rfl ?_
  refine aw_Vv 1 [] [] d_X12_fault_42 (cV_X12_stepsRead (d + 2) 0 0) kc_12 (ws_1 w) tw_2202 rfl (rr0 (Nat.le_of_ble_eq_true rfl) (Nat.le_of_ble_eq_true rfl)) (Nat.le_of_ble_eq_true rfl) xs0 (f_X12_stepsRead_115 d (h_im (h_im (h_im (h_im (h_im h 1 37 0) 1 33 0) 1 34 (-1)) 1 35 0) 1 36 0) w e_1_32 rfl rfl ) (fun h6 kk => ?_)
  have ez9 := kk
  obtain rfl := ez9.symm
  refine aw_goto (tgt := 86) d_X12_fault_45 rfl ?_
  refine aw_aload_n (i := 0) rfl d_X12_fault_86 0 rfl ?_
  refine aw_geti (k0 := 34) kc_12 (ws_1 w) (Nat.le_of_ble_eq_true rfl) tw_1776 d_X12_fault_87 rfl ?_
  refine aw_vi (v2 := 0) rfl ?_
  refine aw_iconst (v := (-1)) d_X12_fault_90 ic_m1 ?_
  refine aw_icmp_ne (tgt := 106) d_X12_fault_91 rfl (fun _ => ?_) (fun c => absurd c (by decide))
  refine aw_aload_n (i := 0) rfl d_X12_fault_106 0 rfl ?_
  refine aw_geti (k0 := 34) kc_12 (ws_1 w) (Nat.le_of_ble_eq_true rfl) tw_1776 d_X12_fault_107 rfl ?_
  refine aw_vi (v2 := 0) rfl ?_
  exact aw_iret rfl d_X12_fault_110 ⟨Nat.le_refl _, Nat.le_refl _⟩ ⟨_, rfl, ⟨rfl, rfl⟩⟩
theorem f_X12_beat (d : Nat) (h : Hp_) (w : Wf h) (e_1_32 : h_i h 1 32 = 0) (e_1_42 : h_i h 1 42 = 0)   : Ci (m_X12_beat (d + 4) 0 0) [.ref 1] h (fun r h' => (r = (-1) ∧ h' = h_im (h_im (h_im (h_im (h_im (h_im h 1 37 0) 1 33 0) 1 34 (-1)) 1 35 0) 1 36 0) 1 34 0)) := by
  refine Ct.of (fun _ _ _ => trivial) rfl (Nat.le_of_ble_eq_true rfl) ?_
  show AW (m_X12_beat (d + 4) 0 0) 0 0 0 [(0, .ref 1)] [] h (kI (fun r h' => (r = (-1) ∧ h' = h_im (h_im (h_im (h_im (h_im (h_im h 1 37 0) 1 33 0) 1 34 (-1)) 1 35 0) 1 36 0) 1 34 0)))
  refine aw_aload_n (i := 0) rfl d_X12_beat_0 0 rfl ?_
  refine aw_geti (k0 := 42) kc_12 (ws_1 w) (Nat.le_of_ble_eq_true rfl) tw_1784 d_X12_beat_1 rfl ?_
  refine aw_vi (v2 := 0) e_1_42 ?_
  refine aw_bipush (v := 12) d_X12_beat_4 ib_12 ?_
  refine aw_icmp_eq (tgt := 18) d_X12_beat_6 rfl (fun c => absurd c (by decide)) (fun _ => ?_)
  refine aw_aload_n (i := 0) rfl d_X12_beat_9 0 rfl ?_
  refine aw_iconst (v := 0) d_X12_beat_10 ic_0 ?_
  refine aw_Vi 1 [.int 0] [] d_X12_beat_11 (cV_X12_fault (d + 3) 0 0) kc_12 (ws_1 w) tw_2198 rfl (rr0 (Nat.le_of_ble_eq_true rfl) (Nat.le_of_ble_eq_true rfl)) (Nat.le_of_ble_eq_true rfl) xs0 (f_X12_fault_116 d h w e_1_32 ) (fun r2 h3 kk => ?_)
  obtain ⟨ez8, ez9⟩ := kk
  obtain rfl := ez8.symm
  obtain rfl := ez9.symm
  refine aw_iconst (v := (-1)) d_X12_beat_14 ic_m1 ?_
  refine aw_icmp_eq (tgt := 20) d_X12_beat_15 rfl (fun c => absurd c (by decide)) (fun _ => ?_)
  refine aw_iconst (v := (-1)) d_X12_beat_18 ic_m1 ?_
  exact aw_iret rfl d_X12_beat_19 ⟨Nat.le_refl _, Nat.le_refl _⟩ ⟨_, rfl, ⟨rfl, rfl⟩⟩
theorem f_X12_beaten (d : Nat) (h : Hp_) (w : Wf h) (e_1_42 : h_i h 1 42 = 0)  (x1 : Int32) (x2 : Int32) : Ci (m_X12_beaten (d + 1) 0 0) [.ref 1, .int x1, .int x2] h (fun r h' => (r = (-1) ∧ h' = h)) := by
  refine Ct.of (fun _ _ _ => trivial) rfl (Nat.le_of_ble_eq_true rfl) ?_
  show AW (m_X12_beaten (d + 1) 0 0) 0 0 0 [(0, .ref 1), (1, .int x1), (2, .int x2)] [] h (kI (fun r h' => (r = (-1) ∧ h' = h)))
  refine aw_iload_n (i := 1) rfl d_X12_beaten_0 1 rfl ?_
  refine aw_iconst (v := 0) d_X12_beaten_1 ic_0 ?_
  refine aw_aload_n (i := 0) rfl d_X12_beaten_2 0 rfl ?_
  refine aw_geti (k0 := 42) kc_12 (ws_1 w) (Nat.le_of_ble_eq_true rfl) tw_1784 d_X12_beaten_3 rfl ?_
  refine aw_vi (v2 := 0) e_1_42 ?_
  refine aw_iconst (v := 1) d_X12_beaten_6 ic_1 ?_
  refine aw_isub d_X12_beaten_7 ?_
  refine aw_vi (v2 := (-1)) (by decide) ?_
  refine aw_Si [.int x1, .int 0, .int (-1)] [] d_X12_beaten_8 (cS_X12_in (d + 0) 0 0) tw_2147 rfl (rr0 (Nat.le_of_ble_eq_true rfl) (Nat.le_of_ble_eq_true rfl)) (Nat.le_of_ble_eq_true rfl) xs0 (s_X12_in _ _ x1 0 (-1)) (fun _ _ kk => ?_)
  obtain ⟨e1, e2⟩ := kk
  rw [e1, e2]
  have c3 : ¬ (0 ≤ x1 ∧ x1 ≤ (-1)) := (by intro c3; grind)
  refine aw_vi (v2 := 0) (bI_0.mpr c3) ?_
  refine aw_if_eq (tgt := 23) d_X12_beaten_11 rfl (fun _ => ?_) (fun c => absurd c (by decide))
  refine aw_iconst (v := (-1)) d_X12_beaten_23 ic_m1 ?_
  exact aw_iret rfl d_X12_beaten_24 ⟨Nat.le_refl _, Nat.le_refl _⟩ ⟨_, rfl, ⟨rfl, rfl⟩⟩
theorem f_X12_isMan_119 (d : Nat) (h : Hp_) (w : Wf h) (e_1_7 : h_i h 1 7 = 0)  (x1 : Int32) : Ci (m_X12_isMan (d + 1) 0 0) [.ref 1, .int x1] h (fun r h' => (r = 0 ∧ h' = h)) := by
  refine Ct.of (fun _ _ _ => trivial) rfl (Nat.le_of_ble_eq_true rfl) ?_
  show AW (m_X12_isMan (d + 1) 0 0) 0 0 0 [(0, .ref 1), (1, .int x1)] [] h (kI (fun r h' => (r = 0 ∧ h' = h)))
  refine aw_iload_n (i := 1) rfl d_X12_isMan_0 1 rfl ?_
  refine aw_iconst (v := 0) d_X12_isMan_1 ic_0 ?_
  refine aw_aload_n (i := 0) rfl d_X12_isMan_2 0 rfl ?_
  refine aw_geti (k0 := 7) kc_12 (ws_1 w) (Nat.le_of_ble_eq_true rfl) tw_1749 d_X12_isMan_3 rfl ?_
  refine aw_vi (v2 := 0) e_1_7 ?_
  refine aw_iconst (v := 1) d_X12_isMan_6 ic_1 ?_
  refine aw_isub d_X12_isMan_7 ?_
  refine aw_vi (v2 := (-1)) (by decide) ?_
  refine aw_Si [.int x1, .int 0, .int (-1)] [] d_X12_isMan_8 (cS_X12_in (d + 0) 0 0) tw_2147 rfl (rr0 (Nat.le_of_ble_eq_true rfl) (Nat.le_of_ble_eq_true rfl)) (Nat.le_of_ble_eq_true rfl) xs0 (s_X12_in _ _ x1 0 (-1)) (fun _ _ kk => ?_)
  obtain ⟨e1, e2⟩ := kk
  rw [e1, e2]
  have c3 : ¬ (0 ≤ x1 ∧ x1 ≤ (-1)) := (by intro c3; grind)
  refine aw_vi (v2 := 0) (bI_0.mpr c3) ?_
  exact aw_zret rfl rfl d_X12_isMan_11 ⟨Nat.le_refl _, Nat.le_refl _⟩ ⟨_, rfl, ⟨rfl, rfl⟩⟩
theorem f_X12_begin (d : Nat) (h : Hp_) (w : Wf h) (e_1_7 : h_i h 1 7 = 0)  (x1 : Int32) (x2 : Int32) : Ci (m_X12_begin (d + 2) 0 0) [.ref 1, .int x1, .int x2] h (fun r h' => (r = 0 ∧ h' = h)) := by
  refine Ct.of (fun _ _ _ => trivial) rfl (Nat.le_of_ble_eq_true rfl) ?_
  show AW (m_X12_begin (d + 2) 0 0) 0 0 0 [(0, .ref 1), (1, .int x1), (2, .int x2)] [] h (kI (fun r h' => (r = 0 ∧ h' = h)))
  refine aw_aload_n (i := 0) rfl d_X12_begin_0 0 rfl ?_
  refine aw_iload_n (i := 1) rfl d_X12_begin_1 1 rfl ?_
  refine aw_Vi 1 [.int x1] [] d_X12_begin_2 (cV_X12_isMan (d + 1) 0 0) kc_12 (ws_1 w) tw_2167 rfl (rr0 (Nat.le_of_ble_eq_true rfl) (Nat.le_of_ble_eq_true rfl)) (Nat.le_of_ble_eq_true rfl) xs0 (f_X12_isMan_119 d h w e_1_7 x1) (fun r1 h2 kk => ?_)
  obtain ⟨ez8, ez9⟩ := kk
  obtain rfl := ez8.symm
  obtain rfl := ez9.symm
  refine aw_if_eq (tgt := 47) d_X12_begin_5 rfl (fun _ => ?_) (fun c => absurd c (by decide))
  refine aw_iconst (v := 0) d_X12_begin_47 ic_0 ?_
  exact aw_zret rfl rfl d_X12_begin_48 ⟨Nat.le_refl _, Nat.le_refl _⟩ ⟨_, rfl, ⟨rfl, rfl⟩⟩
theorem f_X12_draw (d : Nat) (h : Hp_) (w : Wf h) (e_1_7 : h_i h 1 7 = 0)  (x1 : Int32) (x2 : Int32) (x3 : Int32) : Ci (m_X12_draw (d + 2) 0 0) [.ref 1, .int x1, .int x2, .int x3] h (fun r h' => (r = 0 ∧ h' = h)) := by
  refine Ct.of (fun _ _ _ => trivial) rfl (Nat.le_of_ble_eq_true rfl) ?_
  show AW (m_X12_draw (d + 2) 0 0) 0 0 0 [(0, .ref 1), (1, .int x1), (2, .int x2), (3, .int x3)] [] h (kI (fun r h' => (r = 0 ∧ h' = h)))
  refine aw_aload_n (i := 0) rfl d_X12_draw_0 0 rfl ?_
  refine aw_iload_n (i := 1) rfl d_X12_draw_1 1 rfl ?_
  refine aw_Vi 1 [.int x1] [] d_X12_draw_2 (cV_X12_isMan (d + 1) 0 0) kc_12 (ws_1 w) tw_2167 rfl (rr0 (Nat.le_of_ble_eq_true rfl) (Nat.le_of_ble_eq_true rfl)) (Nat.le_of_ble_eq_true rfl) xs0 (f_X12_isMan_119 d h w e_1_7 x1) (fun r1 h2 kk => ?_)
  obtain ⟨ez8, ez9⟩ := kk
  obtain rfl := ez8.symm
  obtain rfl := ez9.symm
  refine aw_if_eq (tgt := 64) d_X12_draw_5 rfl (fun _ => ?_) (fun c => absurd c (by decide))
  refine aw_iconst (v := 0) d_X12_draw_64 ic_0 ?_
  exact aw_zret rfl rfl d_X12_draw_65 ⟨Nat.le_refl _, Nat.le_refl _⟩ ⟨_, rfl, ⟨rfl, rfl⟩⟩
theorem f_X12_ill (d : Nat) (h : Hp_) (w : Wf h) (e_1_7 : h_i h 1 7 = 0)  (x1 : Int32) (x2 : Int32) : Ci (m_X12_ill (d + 2) 0 0) [.ref 1, .int x1, .int x2] h (fun r h' => (r = 0 ∧ h' = h)) := by
  refine Ct.of (fun _ _ _ => trivial) rfl (Nat.le_of_ble_eq_true rfl) ?_
  show AW (m_X12_ill (d + 2) 0 0) 0 0 0 [(0, .ref 1), (1, .int x1), (2, .int x2)] [] h (kI (fun r h' => (r = 0 ∧ h' = h)))
  refine aw_aload_n (i := 0) rfl d_X12_ill_0 0 rfl ?_
  refine aw_iload_n (i := 1) rfl d_X12_ill_1 1 rfl ?_
  refine aw_Vi 1 [.int x1] [] d_X12_ill_2 (cV_X12_isMan (d + 1) 0 0) kc_12 (ws_1 w) tw_2167 rfl (rr0 (Nat.le_of_ble_eq_true rfl) (Nat.le_of_ble_eq_true rfl)) (Nat.le_of_ble_eq_true rfl) xs0 (f_X12_isMan_119 d h w e_1_7 x1) (fun r1 h2 kk => ?_)
  obtain ⟨ez8, ez9⟩ := kk
  obtain rfl := ez8.symm
  obtain rfl := ez9.symm
  refine aw_if_eq (tgt := 27) d_X12_ill_5 rfl (fun _ => ?_) (fun c => absurd c (by decide))
  refine aw_iconst (v := 0) d_X12_ill_27 ic_0 ?_
  exact aw_zret rfl rfl d_X12_ill_28 ⟨Nat.le_refl _, Nat.le_refl _⟩ ⟨_, rfl, ⟨rfl, rfl⟩⟩
theorem f_X12_about (d : Nat) (h : Hp_) (w : Wf h) (e_1_7 : h_i h 1 7 = 0)  (x1 : Int32) (x2 : Int32) : Ci (m_X12_about (d + 2) 0 0) [.ref 1, .int x1, .int x2] h (fun r h' => (r = 0 ∧ h' = h_im h 1 1 1)) := by
  refine Ct.of (fun _ _ _ => trivial) rfl (Nat.le_of_ble_eq_true rfl) ?_
  show AW (m_X12_about (d + 2) 0 0) 0 0 0 [(0, .ref 1), (1, .int x1), (2, .int x2)] [] h (kI (fun r h' => (r = 0 ∧ h' = h_im h 1 1 1)))
  refine aw_aload_n (i := 0) rfl d_X12_about_0 0 rfl ?_
  refine aw_aload_n (i := 0) rfl d_X12_about_1 0 rfl ?_
  refine aw_iload_n (i := 1) rfl d_X12_about_2 1 rfl ?_
  refine aw_Vi 1 [.int x1] [.ref 1] d_X12_about_3 (cV_X12_isMan (d + 1) 0 0) kc_12 (ws_1 w) tw_2167 rfl (rr0 (Nat.le_of_ble_eq_true rfl) (Nat.le_of_ble_eq_true rfl)) (Nat.le_of_ble_eq_true rfl) xs0 (f_X12_isMan_119 d h w e_1_7 x1) (fun r1 h2 kk => ?_)
  obtain ⟨ez8, ez9⟩ := kk
  obtain rfl := ez8.symm
  obtain rfl := ez9.symm
  refine aw_if_eq (tgt := 23) d_X12_about_6 rfl (fun _ => ?_) (fun c => absurd c (by decide))
  refine aw_iconst (v := 1) d_X12_about_23 ic_1 ?_
  refine aw_puti (k0 := 1) kc_12 (ws_1 w) (Nat.le_of_ble_eq_true rfl) tw_1743 d_X12_about_24 rfl rfl nf_i ?_
  refine aw_aload_n (i := 0) rfl d_X12_about_27 0 rfl ?_
  refine aw_geti (k0 := 1) kc_12 (ws_1 w) (Nat.le_of_ble_eq_true rfl) tw_1743 d_X12_about_28 rfl ?_
  refine aw_vi (v2 := 1) rfl ?_
  refine aw_iconst (v := 1) d_X12_about_31 ic_1 ?_
  refine aw_icmp_ne (tgt := 37) d_X12_about_32 rfl (fun c => absurd c (by decide)) (fun _ => ?_)
  refine aw_iconst (v := 0) d_X12_about_35 ic_0 ?_
  exact aw_iret rfl d_X12_about_36 ⟨Nat.le_refl _, Nat.le_refl _⟩ ⟨_, rfl, ⟨rfl, rfl⟩⟩
theorem f_X12_was (d : Nat) (h : Hp_) (w : Wf h) (e_1_7 : h_i h 1 7 = 0)  (x1 : Int32) (x2 : Int32) : Ci (m_X12_was (d + 2) 0 0) [.ref 1, .int x1, .int x2] h (fun r h' => (r = (-1) ∧ h' = h)) := by
  refine Ct.of (fun _ _ _ => trivial) rfl (Nat.le_of_ble_eq_true rfl) ?_
  show AW (m_X12_was (d + 2) 0 0) 0 0 0 [(0, .ref 1), (1, .int x1), (2, .int x2)] [] h (kI (fun r h' => (r = (-1) ∧ h' = h)))
  refine aw_aload_n (i := 0) rfl d_X12_was_0 0 rfl ?_
  refine aw_iload_n (i := 1) rfl d_X12_was_1 1 rfl ?_
  refine aw_Vi 1 [.int x1] [] d_X12_was_2 (cV_X12_isMan (d + 1) 0 0) kc_12 (ws_1 w) tw_2167 rfl (rr0 (Nat.le_of_ble_eq_true rfl) (Nat.le_of_ble_eq_true rfl)) (Nat.le_of_ble_eq_true rfl) xs0 (f_X12_isMan_119 d h w e_1_7 x1) (fun r1 h2 kk => ?_)
  obtain ⟨ez8, ez9⟩ := kk
  obtain rfl := ez8.symm
  obtain rfl := ez9.symm
  refine aw_if_eq (tgt := 34) d_X12_was_5 rfl (fun _ => ?_) (fun c => absurd c (by decide))
  refine aw_iconst (v := (-1)) d_X12_was_34 ic_m1 ?_
  exact aw_iret rfl d_X12_was_35 ⟨Nat.le_refl _, Nat.le_refl _⟩ ⟨_, rfl, ⟨rfl, rfl⟩⟩
theorem f_X12_point (d : Nat) (h : Hp_) (w : Wf h) (e_1_63 : h_i h 1 63 = 0)  (x1 : Int32) (x2 : Int32) (x3 : Int32) : Ci (m_X12_point (d + 1) 0 0) [.ref 1, .int x1, .int x2, .int x3] h (fun r h' => (r = (-1) ∧ h' = h)) := by
  refine Ct.of (fun _ _ _ => trivial) rfl (Nat.le_of_ble_eq_true rfl) ?_
  show AW (m_X12_point (d + 1) 0 0) 0 0 0 [(0, .ref 1), (1, .int x1), (2, .int x2), (3, .int x3)] [] h (kI (fun r h' => (r = (-1) ∧ h' = h)))
  refine aw_iload_n (i := 1) rfl d_X12_point_0 1 rfl ?_
  refine aw_iconst (v := 0) d_X12_point_1 ic_0 ?_
  refine aw_aload_n (i := 0) rfl d_X12_point_2 0 rfl ?_
  refine aw_geti (k0 := 63) kc_12 (ws_1 w) (Nat.le_of_ble_eq_true rfl) tw_1805 d_X12_point_3 rfl ?_
  refine aw_vi (v2 := 0) e_1_63 ?_
  refine aw_iconst (v := 1) d_X12_point_6 ic_1 ?_
  refine aw_isub d_X12_point_7 ?_
  refine aw_vi (v2 := (-1)) (by decide) ?_
  refine aw_Si [.int x1, .int 0, .int (-1)] [] d_X12_point_8 (cS_X12_in (d + 0) 0 0) tw_2147 rfl (rr0 (Nat.le_of_ble_eq_true rfl) (Nat.le_of_ble_eq_true rfl)) (Nat.le_of_ble_eq_true rfl) xs0 (s_X12_in _ _ x1 0 (-1)) (fun _ _ kk => ?_)
  obtain ⟨e1, e2⟩ := kk
  rw [e1, e2]
  have c3 : ¬ (0 ≤ x1 ∧ x1 ≤ (-1)) := (by intro c3; grind)
  refine aw_vi (v2 := 0) (bI_0.mpr c3) ?_
  refine aw_if_eq (tgt := 32) d_X12_point_11 rfl (fun _ => ?_) (fun c => absurd c (by decide))
  refine aw_iconst (v := (-1)) d_X12_point_32 ic_m1 ?_
  exact aw_iret rfl d_X12_point_33 ⟨Nat.le_refl _, Nat.le_refl _⟩ ⟨_, rfl, ⟨rfl, rfl⟩⟩
theorem f_X12_cause (d : Nat) (h : Hp_) (w : Wf h) (e_1_63 : h_i h 1 63 = 0)  (x1 : Int32) (x2 : Int32) : Ci (m_X12_cause (d + 1) 0 0) [.ref 1, .int x1, .int x2] h (fun r h' => (r = 0 ∧ h' = h)) := by
  refine Ct.of (fun _ _ _ => trivial) rfl (Nat.le_of_ble_eq_true rfl) ?_
  show AW (m_X12_cause (d + 1) 0 0) 0 0 0 [(0, .ref 1), (1, .int x1), (2, .int x2)] [] h (kI (fun r h' => (r = 0 ∧ h' = h)))
  refine aw_iload_n (i := 1) rfl d_X12_cause_0 1 rfl ?_
  refine aw_iconst (v := 0) d_X12_cause_1 ic_0 ?_
  refine aw_aload_n (i := 0) rfl d_X12_cause_2 0 rfl ?_
  refine aw_geti (k0 := 63) kc_12 (ws_1 w) (Nat.le_of_ble_eq_true rfl) tw_1805 d_X12_cause_3 rfl ?_
  refine aw_vi (v2 := 0) e_1_63 ?_
  refine aw_iconst (v := 1) d_X12_cause_6 ic_1 ?_
  refine aw_isub d_X12_cause_7 ?_
  refine aw_vi (v2 := (-1)) (by decide) ?_
  refine aw_Si [.int x1, .int 0, .int (-1)] [] d_X12_cause_8 (cS_X12_in (d + 0) 0 0) tw_2147 rfl (rr0 (Nat.le_of_ble_eq_true rfl) (Nat.le_of_ble_eq_true rfl)) (Nat.le_of_ble_eq_true rfl) xs0 (s_X12_in _ _ x1 0 (-1)) (fun _ _ kk => ?_)
  obtain ⟨e1, e2⟩ := kk
  rw [e1, e2]
  have c3 : ¬ (0 ≤ x1 ∧ x1 ≤ (-1)) := (by intro c3; grind)
  refine aw_vi (v2 := 0) (bI_0.mpr c3) ?_
  refine aw_if_eq (tgt := 47) d_X12_cause_11 rfl (fun _ => ?_) (fun c => absurd c (by decide))
  refine aw_iconst (v := 0) d_X12_cause_47 ic_0 ?_
  exact aw_zret rfl rfl d_X12_cause_48 ⟨Nat.le_refl _, Nat.le_refl _⟩ ⟨_, rfl, ⟨rfl, rfl⟩⟩
theorem f_X12_isKnowing_127 (d : Nat) (h : Hp_) (w : Wf h) (e_1_0 : h_i h 1 0 = 0)  (x1 : Int32) : Ci (m_X12_isKnowing (d + 1) 0 0) [.ref 1, .int x1] h (fun r h' => (r = (bI (0 ≤ x1 ∧ x1 ≤ 0)) ∧ h' = h)) := by
  refine Ct.of (fun _ _ _ => trivial) rfl (Nat.le_of_ble_eq_true rfl) ?_
  show AW (m_X12_isKnowing (d + 1) 0 0) 0 0 0 [(0, .ref 1), (1, .int x1)] [] h (kI (fun r h' => (r = (bI (0 ≤ x1 ∧ x1 ≤ 0)) ∧ h' = h)))
  refine aw_iload_n (i := 1) rfl d_X12_isKnowing_0 1 rfl ?_
  refine aw_iconst (v := 0) d_X12_isKnowing_1 ic_0 ?_
  refine aw_aload_n (i := 0) rfl d_X12_isKnowing_2 0 rfl ?_
  refine aw_geti (k0 := 0) kc_12 (ws_1 w) (Nat.le_of_ble_eq_true rfl) tw_1742 d_X12_isKnowing_3 rfl ?_
  refine aw_vi (v2 := 0) e_1_0 ?_
  refine aw_Si [.int x1, .int 0, .int 0] [] d_X12_isKnowing_6 (cS_X12_in (d + 0) 0 0) tw_2147 rfl (rr0 (Nat.le_of_ble_eq_true rfl) (Nat.le_of_ble_eq_true rfl)) (Nat.le_of_ble_eq_true rfl) xs0 (s_X12_in _ _ x1 0 0) (fun _ _ kk => ?_)
  obtain ⟨e1, e2⟩ := kk
  rw [e1, e2]
  exact aw_zret rfl (bI_nar _) d_X12_isKnowing_9 ⟨Nat.le_refl _, Nat.le_refl _⟩ ⟨_, rfl, ⟨rfl, rfl⟩⟩
theorem f_X12_causes (d : Nat) (h : Hp_) (w : Wf h) (e_1_0 : h_i h 1 0 = 0) (e_1_63 : h_i h 1 63 = 0)  (x1 : Int32) (x2 : Int32) : Ci (m_X12_causes (d + 2) 0 0) [.ref 1, .int x1, .int x2] h (fun r h' => (¬ (1 ≤ x1 ∧ x1 ≤ 9) ∧ r = (-1) ∧ h' = h) ∨ ((1 ≤ x1 ∧ x1 ≤ 9) ∧ (0 ≤ x2 ∧ x2 ≤ 0) ∧ r = 0 ∧ h' = h) ∨ ((1 ≤ x1 ∧ x1 ≤ 9) ∧ ¬ (0 ≤ x2 ∧ x2 ≤ 0) ∧ r = (-1) ∧ h' = h)) := by
  refine Ct.of (fun _ _ _ => trivial) rfl (Nat.le_of_ble_eq_true rfl) ?_
  show AW (m_X12_causes (d + 2) 0 0) 0 0 0 [(0, .ref 1), (1, .int x1), (2, .int x2)] [] h (kI (fun r h' => (¬ (1 ≤ x1 ∧ x1 ≤ 9) ∧ r = (-1) ∧ h' = h) ∨ ((1 ≤ x1 ∧ x1 ≤ 9) ∧ (0 ≤ x2 ∧ x2 ≤ 0) ∧ r = 0 ∧ h' = h) ∨ ((1 ≤ x1 ∧ x1 ≤ 9) ∧ ¬ (0 ≤ x2 ∧ x2 ≤ 0) ∧ r = (-1) ∧ h' = h)))
  refine aw_iload_n (i := 1) rfl d_X12_causes_0 1 rfl ?_
  refine aw_iconst (v := 1) d_X12_causes_1 ic_1 ?_
  refine aw_bipush (v := 9) d_X12_causes_2 ib_9 ?_
  refine aw_Si [.int x1, .int 1, .int 9] [] d_X12_causes_4 (cS_X12_in (d + 0) 0 0) tw_2147 rfl (rr0 (Nat.le_of_ble_eq_true rfl) (Nat.le_of_ble_eq_true rfl)) (Nat.le_of_ble_eq_true rfl) xs0 (s_X12_in _ _ x1 1 9) (fun _ _ kk => ?_)
  obtain ⟨e1, e2⟩ := kk
  rw [e1, e2]
  refine aw_ifb_eq (tgt := 18) d_X12_causes_7 rfl (fun c3 => ?_) (fun c3 => ?_)
  · refine aw_iconst (v := (-1)) d_X12_causes_18 ic_m1 ?_
    exact aw_iret rfl d_X12_causes_19 ⟨Nat.le_refl _, Nat.le_refl _⟩ ⟨_, rfl, (Or.inl ⟨c3, rfl, rfl⟩)⟩
  · refine aw_aload_n (i := 0) rfl d_X12_causes_10 0 rfl ?_
    refine aw_iload_n (i := 2) rfl d_X12_causes_11 2 rfl ?_
    refine aw_Vi 1 [.int x2] [] d_X12_causes_12 (cV_X12_isKnowing (d + 1) 0 0) kc_12 (ws_1 w) tw_2175 rfl (rr0 (Nat.le_of_ble_eq_true rfl) (Nat.le_of_ble_eq_true rfl)) (Nat.le_of_ble_eq_true rfl) xs0 (f_X12_isKnowing_127 d h w e_1_0 x2) (fun r4 h5 kk => ?_)
    obtain ⟨ez8, ez9⟩ := kk
    obtain rfl := ez8.symm
    obtain rfl := ez9.symm
    refine aw_ifb_ne (tgt := 20) d_X12_causes_15 rfl (fun c6 => ?_) (fun c6 => ?_)
    · refine aw_iconst (v := 0) d_X12_causes_20 ic_0 ?_
      refine aw_istore_n (i := 3) rfl [(0, .ref 1), (1, .int x1), (2, .int x2), (3, .int 0)] d_X12_causes_21 (Nat.le_of_ble_eq_true rfl) rfl rfl ?_
      refine aw_iconst (v := 0) d_X12_causes_22 ic_0 ?_
      refine aw_istore [(0, .ref 1), (1, .int x1), (2, .int x2), (3, .int 0), (4, .int 0)] d_X12_causes_23 (Nat.le_of_ble_eq_true rfl) rfl rfl ?_
      refine aw_iload d_X12_causes_25 4 rfl ?_
      refine aw_aload_n (i := 0) rfl d_X12_causes_27 0 rfl ?_
      refine aw_geti (k0 := 63) kc_12 (ws_1 w) (Nat.le_of_ble_eq_true rfl) tw_1805 d_X12_causes_28 rfl ?_
      refine aw_vi (v2 := 0) e_1_63 ?_
      refine aw_icmp_ge (tgt := 70) d_X12_causes_31 rfl (fun _ => ?_) (fun c => absurd c (by decide))
      refine aw_iload_n (i := 3) rfl d_X12_causes_70 3 rfl ?_
      exact aw_iret rfl d_X12_causes_71 ⟨Nat.le_refl _, Nat.le_refl _⟩ ⟨_, rfl, (Or.inr (Or.inl ⟨c3, c6, rfl, rfl⟩))⟩
    · refine aw_iconst (v := (-1)) d_X12_causes_18 ic_m1 ?_
      exact aw_iret rfl d_X12_causes_19 ⟨Nat.le_refl _, Nat.le_refl _⟩ ⟨_, rfl, (Or.inr (Or.inr ⟨c3, c6, rfl, rfl⟩))⟩
theorem f_X12_find (d : Nat) (h : Hp_) (w : Wf h) (e_1_79 : h_i h 1 79 = 0)  (x1 : Int32) (x2 : Int32) (x3 : Int32) (x4 : Int32) (x5 : Int32) : Ci (m_X12_find (d + 2) 0 0) [.ref 1, .int x1, .int x2, .int x3, .int x4, .int x5] h (fun r h' => (¬ (0 ≤ x1 ∧ x1 ≤ 9) ∧ r = (-1) ∧ h' = h) ∨ ((0 ≤ x1 ∧ x1 ≤ 9) ∧ ¬ (0 ≤ x2 ∧ x2 ≤ 15) ∧ r = (-1) ∧ h' = h) ∨ ((0 ≤ x1 ∧ x1 ≤ 9) ∧ (0 ≤ x2 ∧ x2 ≤ 15) ∧ ¬ (0 ≤ x3 ∧ x3 ≤ 20000) ∧ r = (-1) ∧ h' = h) ∨ ((0 ≤ x1 ∧ x1 ≤ 9) ∧ (0 ≤ x2 ∧ x2 ≤ 15) ∧ (0 ≤ x3 ∧ x3 ≤ 20000) ∧ ¬ (x3 ≤ x4 ∧ x4 ≤ 20000) ∧ r = (-1) ∧ h' = h) ∨ ((0 ≤ x1 ∧ x1 ≤ 9) ∧ (0 ≤ x2 ∧ x2 ≤ 15) ∧ (0 ≤ x3 ∧ x3 ≤ 20000) ∧ (x3 ≤ x4 ∧ x4 ≤ 20000) ∧ ¬ (1 ≤ x5 ∧ x5 ≤ 9) ∧ r = (-1) ∧ h' = h) ∨ ((0 ≤ x1 ∧ x1 ≤ 9) ∧ (0 ≤ x2 ∧ x2 ≤ 15) ∧ (0 ≤ x3 ∧ x3 ≤ 20000) ∧ (x3 ≤ x4 ∧ x4 ≤ 20000) ∧ (1 ≤ x5 ∧ x5 ≤ 9) ∧ r = 0 ∧ h' = h_im (h_im (h_im (h_im (h_im (h_im h 249 (0 : Int32).toNatClampNeg x1) 250 (0 : Int32).toNatClampNeg x2) 251 (0 : Int32).toNatClampNeg x3) 252 (0 : Int32).toNatClampNeg x4) 253 (0 : Int32).toNatClampNeg x5) 1 79 1)) := by
  refine Ct.of (fun _ _ _ => trivial) rfl (Nat.le_of_ble_eq_true rfl) ?_
  show AW (m_X12_find (d + 2) 0 0) 0 0 0 [(0, .ref 1), (1, .int x1), (2, .int x2), (3, .int x3), (4, .int x4), (5, .int x5)] [] h (kI (fun r h' => (¬ (0 ≤ x1 ∧ x1 ≤ 9) ∧ r = (-1) ∧ h' = h) ∨ ((0 ≤ x1 ∧ x1 ≤ 9) ∧ ¬ (0 ≤ x2 ∧ x2 ≤ 15) ∧ r = (-1) ∧ h' = h) ∨ ((0 ≤ x1 ∧ x1 ≤ 9) ∧ (0 ≤ x2 ∧ x2 ≤ 15) ∧ ¬ (0 ≤ x3 ∧ x3 ≤ 20000) ∧ r = (-1) ∧ h' = h) ∨ ((0 ≤ x1 ∧ x1 ≤ 9) ∧ (0 ≤ x2 ∧ x2 ≤ 15) ∧ (0 ≤ x3 ∧ x3 ≤ 20000) ∧ ¬ (x3 ≤ x4 ∧ x4 ≤ 20000) ∧ r = (-1) ∧ h' = h) ∨ ((0 ≤ x1 ∧ x1 ≤ 9) ∧ (0 ≤ x2 ∧ x2 ≤ 15) ∧ (0 ≤ x3 ∧ x3 ≤ 20000) ∧ (x3 ≤ x4 ∧ x4 ≤ 20000) ∧ ¬ (1 ≤ x5 ∧ x5 ≤ 9) ∧ r = (-1) ∧ h' = h) ∨ ((0 ≤ x1 ∧ x1 ≤ 9) ∧ (0 ≤ x2 ∧ x2 ≤ 15) ∧ (0 ≤ x3 ∧ x3 ≤ 20000) ∧ (x3 ≤ x4 ∧ x4 ≤ 20000) ∧ (1 ≤ x5 ∧ x5 ≤ 9) ∧ r = 0 ∧ h' = h_im (h_im (h_im (h_im (h_im (h_im h 249 (0 : Int32).toNatClampNeg x1) 250 (0 : Int32).toNatClampNeg x2) 251 (0 : Int32).toNatClampNeg x3) 252 (0 : Int32).toNatClampNeg x4) 253 (0 : Int32).toNatClampNeg x5) 1 79 1)))
  refine aw_iload_n (i := 1) rfl d_X12_find_0 1 rfl ?_
  refine aw_iconst (v := 0) d_X12_find_1 ic_0 ?_
  refine aw_bipush (v := 9) d_X12_find_2 ib_9 ?_
  refine aw_Si [.int x1, .int 0, .int 9] [] d_X12_find_4 (cS_X12_in (d + 0) 0 0) tw_2147 rfl (rr0 (Nat.le_of_ble_eq_true rfl) (Nat.le_of_ble_eq_true rfl)) (Nat.le_of_ble_eq_true rfl) xs0 (s_X12_in _ _ x1 0 9) (fun _ _ kk => ?_)
  obtain ⟨e1, e2⟩ := kk
  rw [e1, e2]
  refine aw_ifb_eq (tgt := 60) d_X12_find_7 rfl (fun c3 => ?_) (fun c3 => ?_)
  · refine aw_iconst (v := (-1)) d_X12_find_60 ic_m1 ?_
    exact aw_iret rfl d_X12_find_61 ⟨Nat.le_refl _, Nat.le_refl _⟩ ⟨_, rfl, (Or.inl ⟨c3, rfl, rfl⟩)⟩
  · refine aw_iload_n (i := 2) rfl d_X12_find_10 2 rfl ?_
    refine aw_Si [.int x2] [] d_X12_find_11 (cS_X12_isPlace (d + 1) 0 0) tw_2144 rfl (rr0 (Nat.le_of_ble_eq_true rfl) (Nat.le_of_ble_eq_true rfl)) (Nat.le_of_ble_eq_true rfl) xs0 (s_X12_isPlace _ _ x2) (fun _ _ kk => ?_)
    obtain ⟨e4, e5⟩ := kk
    rw [e4, e5]
    refine aw_ifb_eq (tgt := 60) d_X12_find_14 rfl (fun c6 => ?_) (fun c6 => ?_)
    · refine aw_iconst (v := (-1)) d_X12_find_60 ic_m1 ?_
      exact aw_iret rfl d_X12_find_61 ⟨Nat.le_refl _, Nat.le_refl _⟩ ⟨_, rfl, (Or.inr (Or.inl ⟨c3, c6, rfl, rfl⟩))⟩
    · refine aw_iload_n (i := 3) rfl d_X12_find_17 3 rfl ?_
      refine aw_iconst (v := 0) d_X12_find_18 ic_0 ?_
      refine aw_sipush (v := 20000) d_X12_find_19 is_20000 ?_
      refine aw_Si [.int x3, .int 0, .int 20000] [] d_X12_find_22 (cS_X12_in (d + 0) 0 0) tw_2147 rfl (rr0 (Nat.le_of_ble_eq_true rfl) (Nat.le_of_ble_eq_true rfl)) (Nat.le_of_ble_eq_true rfl) xs0 (s_X12_in _ _ x3 0 20000) (fun _ _ kk => ?_)
      obtain ⟨e7, e8⟩ := kk
      rw [e7, e8]
      refine aw_ifb_eq (tgt := 60) d_X12_find_25 rfl (fun c9 => ?_) (fun c9 => ?_)
      · refine aw_iconst (v := (-1)) d_X12_find_60 ic_m1 ?_
        exact aw_iret rfl d_X12_find_61 ⟨Nat.le_refl _, Nat.le_refl _⟩ ⟨_, rfl, (Or.inr (Or.inr (Or.inl ⟨c3, c6, c9, rfl, rfl⟩)))⟩
      · refine aw_iload d_X12_find_28 4 rfl ?_
        refine aw_iload_n (i := 3) rfl d_X12_find_30 3 rfl ?_
        refine aw_sipush (v := 20000) d_X12_find_31 is_20000 ?_
        refine aw_Si [.int x4, .int x3, .int 20000] [] d_X12_find_34 (cS_X12_in (d + 0) 0 0) tw_2147 rfl (rr0 (Nat.le_of_ble_eq_true rfl) (Nat.le_of_ble_eq_true rfl)) (Nat.le_of_ble_eq_true rfl) xs0 (s_X12_in _ _ x4 x3 20000) (fun _ _ kk => ?_)
        obtain ⟨e10, e11⟩ := kk
        rw [e10, e11]
        refine aw_ifb_eq (tgt := 60) d_X12_find_37 rfl (fun c12 => ?_) (fun c12 => ?_)
        · refine aw_iconst (v := (-1)) d_X12_find_60 ic_m1 ?_
          exact aw_iret rfl d_X12_find_61 ⟨Nat.le_refl _, Nat.le_refl _⟩ ⟨_, rfl, (Or.inr (Or.inr (Or.inr (Or.inl ⟨c3, c6, c9, c12, rfl, rfl⟩))))⟩
        · refine aw_iload d_X12_find_40 5 rfl ?_
          refine aw_iconst (v := 1) d_X12_find_42 ic_1 ?_
          refine aw_bipush (v := 9) d_X12_find_43 ib_9 ?_
          refine aw_Si [.int x5, .int 1, .int 9] [] d_X12_find_45 (cS_X12_in (d + 0) 0 0) tw_2147 rfl (rr0 (Nat.le_of_ble_eq_true rfl) (Nat.le_of_ble_eq_true rfl)) (Nat.le_of_ble_eq_true rfl) xs0 (s_X12_in _ _ x5 1 9) (fun _ _ kk => ?_)
          obtain ⟨e13, e14⟩ := kk
          rw [e13, e14]
          refine aw_ifb_eq (tgt := 60) d_X12_find_48 rfl (fun c15 => ?_) (fun c15 => ?_)
          · refine aw_iconst (v := (-1)) d_X12_find_60 ic_m1 ?_
            exact aw_iret rfl d_X12_find_61 ⟨Nat.le_refl _, Nat.le_refl _⟩ ⟨_, rfl, (Or.inr (Or.inr (Or.inr (Or.inr (Or.inl ⟨c3, c6, c9, c12, c15, rfl, rfl⟩)))))⟩
          · refine aw_aload_n (i := 0) rfl d_X12_find_51 0 rfl ?_
            refine aw_geti (k0 := 79) kc_12 (ws_1 w) (Nat.le_of_ble_eq_true rfl) tw_1821 d_X12_find_52 rfl ?_
            refine aw_vi (v2 := 0) e_1_79 ?_
            refine aw_bipush (v := 80) d_X12_find_55 ib_80 ?_
            refine aw_icmp_ne (tgt := 62) d_X12_find_57 rfl (fun _ => ?_) (fun c => absurd c (by decide))
            refine aw_aload_n (i := 0) rfl d_X12_find_62 0 rfl ?_
            refine aw_getr (k0 := 66) kc_12 (ws_1 w) (Nat.le_of_ble_eq_true rfl) tw_1808 d_X12_find_63 rfl (wr_1_66 w) ?_
            refine aw_aload_n (i := 0) rfl d_X12_find_66 0 rfl ?_
            refine aw_geti (k0 := 79) kc_12 (ws_1 w) (Nat.le_of_ble_eq_true rfl) tw_1821 d_X12_find_67 rfl ?_
            refine aw_vi (v2 := 0) e_1_79 ?_
            refine aw_iload_n (i := 1) rfl d_X12_find_70 1 rfl ?_
            refine aw_iast (ws_249 w) (vin_c (by decide)) d_X12_find_71 ?_
            refine aw_aload_n (i := 0) rfl d_X12_find_72 0 rfl ?_
            refine aw_getr (k0 := 67) kc_12 (ws_1 w) (Nat.le_of_ble_eq_true rfl) tw_1809 d_X12_find_73 rfl (wr_1_67 w) ?_
            refine aw_aload_n (i := 0) rfl d_X12_find_76 0 rfl ?_
            refine aw_geti (k0 := 79) kc_12 (ws_1 w) (Nat.le_of_ble_eq_true rfl) tw_1821 d_X12_find_77 rfl ?_
            refine aw_vi (v2 := 0) e_1_79 ?_
            refine aw_iload_n (i := 2) rfl d_X12_find_80 2 rfl ?_
            refine aw_iast (ws_250 w) (vin_c (by decide)) d_X12_find_81 ?_
            refine aw_aload_n (i := 0) rfl d_X12_find_82 0 rfl ?_
            refine aw_getr (k0 := 68) kc_12 (ws_1 w) (Nat.le_of_ble_eq_true rfl) tw_1810 d_X12_find_83 rfl (wr_1_68 w) ?_
            refine aw_aload_n (i := 0) rfl d_X12_find_86 0 rfl ?_
            refine aw_geti (k0 := 79) kc_12 (ws_1 w) (Nat.le_of_ble_eq_true rfl) tw_1821 d_X12_find_87 rfl ?_
            refine aw_vi (v2 := 0) e_1_79 ?_
            refine aw_iload_n (i := 3) rfl d_X12_find_90 3 rfl ?_
            refine aw_iast (ws_251 w) (vin_c (by decide)) d_X12_find_91 ?_
            refine aw_aload_n (i := 0) rfl d_X12_find_92 0 rfl ?_
            refine aw_getr (k0 := 69) kc_12 (ws_1 w) (Nat.le_of_ble_eq_true rfl) tw_1811 d_X12_find_93 rfl (wr_1_69 w) ?_
            refine aw_aload_n (i := 0) rfl d_X12_find_96 0 rfl ?_
            refine aw_geti (k0 := 79) kc_12 (ws_1 w) (Nat.le_of_ble_eq_true rfl) tw_1821 d_X12_find_97 rfl ?_
            refine aw_vi (v2 := 0) e_1_79 ?_
            refine aw_iload d_X12_find_100 4 rfl ?_
            refine aw_iast (ws_252 w) (vin_c (by decide)) d_X12_find_102 ?_
            refine aw_aload_n (i := 0) rfl d_X12_find_103 0 rfl ?_
            refine aw_getr (k0 := 70) kc_12 (ws_1 w) (Nat.le_of_ble_eq_true rfl) tw_1812 d_X12_find_104 rfl (wr_1_70 w) ?_
            refine aw_aload_n (i := 0) rfl d_X12_find_107 0 rfl ?_
            refine aw_geti (k0 := 79) kc_12 (ws_1 w) (Nat.le_of_ble_eq_true rfl) tw_1821 d_X12_find_108 rfl ?_
            refine aw_vi (v2 := 0) e_1_79 ?_
            refine aw_iload d_X12_find_111 5 rfl ?_
            refine aw_iast (ws_253 w) (vin_c (by decide)) d_X12_find_113 ?_
            refine aw_aload_n (i := 0) rfl d_X12_find_114 0 rfl ?_
            refine aw_dup d_X12_find_115 rfl ?_
            refine aw_geti (k0 := 79) kc_12 (ws_1 w) (Nat.le_of_ble_eq_true rfl) tw_1821 d_X12_find_116 rfl ?_
            refine aw_vi (v2 := 0) e_1_79 ?_
            refine aw_iconst (v := 1) d_X12_find_119 ic_1 ?_
            refine aw_iadd d_X12_find_120 ?_
            refine aw_vi (v2 := 1) (by decide) ?_
            refine aw_puti (k0 := 79) kc_12 (ws_1 w) (Nat.le_of_ble_eq_true rfl) tw_1821 d_X12_find_121 rfl rfl nf_i ?_
            refine aw_aload_n (i := 0) rfl d_X12_find_124 0 rfl ?_
            refine aw_geti (k0 := 79) kc_12 (ws_1 w) (Nat.le_of_ble_eq_true rfl) tw_1821 d_X12_find_125 rfl ?_
            refine aw_vi (v2 := 1) rfl ?_
            refine aw_iconst (v := 1) d_X12_find_128 ic_1 ?_
            refine aw_isub d_X12_find_129 ?_
            refine aw_vi (v2 := 0) (by decide) ?_
            exact aw_iret rfl d_X12_find_130 ⟨Nat.le_refl _, Nat.le_refl _⟩ ⟨_, rfl, (Or.inr (Or.inr (Or.inr (Or.inr (Or.inr ⟨c3, c6, c9, c12, c15, rfl, rfl⟩)))))⟩
theorem f_X12_isLetter_130 (d : Nat) (h : Hp_)    : Ci (m_X12_isLetter (d + 0) 0 0) [.int (-1), .int 1] h (fun r h' => (r = 0 ∧ h' = h)) := by
  refine Ct.of (fun _ _ _ => trivial) rfl (Nat.le_of_ble_eq_true rfl) ?_
  show AW (m_X12_isLetter (d + 0) 0 0) 0 0 0 [(0, .int (-1)), (1, .int 1)] [] h (kI (fun r h' => (r = 0 ∧ h' = h)))
  refine aw_iload_n (i := 0) rfl d_X12_isLetter_0 0 rfl ?_
  refine aw_tableOut (tgt := 140) d_X12_isLetter_1 (by decide) rfl ?_
  refine aw_iconst (v := 0) d_X12_isLetter_140 ic_0 ?_
  exact aw_zret rfl rfl d_X12_isLetter_141 ⟨Nat.le_refl _, Nat.le_refl _⟩ ⟨_, rfl, ⟨rfl, rfl⟩⟩
theorem f_X12_isDigit_131 (d : Nat) (h : Hp_)    : Ci (m_X12_isDigit (d + 0) 0 0) [.int (-1)] h (fun r h' => (r = 0 ∧ h' = h)) := by
  refine Ct.of (fun _ _ _ => trivial) rfl (Nat.le_of_ble_eq_true rfl) ?_
  show AW (m_X12_isDigit (d + 0) 0 0) 0 0 0 [(0, .int (-1))] [] h (kI (fun r h' => (r = 0 ∧ h' = h)))
  refine aw_iload_n (i := 0) rfl d_X12_isDigit_0 0 rfl ?_
  refine aw_bipush (v := 48) d_X12_isDigit_1 ib_48 ?_
  refine aw_icmp_lt (tgt := 16) d_X12_isDigit_3 rfl (fun _ => ?_) (fun c => absurd c (by decide))
  refine aw_iconst (v := 0) d_X12_isDigit_16 ic_0 ?_
  exact aw_zret rfl rfl d_X12_isDigit_17 ⟨Nat.le_refl _, Nat.le_refl _⟩ ⟨_, rfl, ⟨rfl, rfl⟩⟩
theorem f_X12_number_132 (d : Nat) (h : Hp_) (w : Wf h) (e_1_32 : h_i h 1 32 = 0) (e_1_33 : h_i h 1 33 = 0) (e_1_34 : h_i h 1 34 = (-1))   : Ci (m_X12_number (d + 1) 0 0) [.ref 1] h (fun r h' => (r = (-1) ∧ h' = h_im h 1 34 0)) := by
  refine Ct.of (fun _ _ _ => trivial) rfl (Nat.le_of_ble_eq_true rfl) ?_
  show AW (m_X12_number (d + 1) 0 0) 0 0 0 [(0, .ref 1)] [] h (kI (fun r h' => (r = (-1) ∧ h' = h_im h 1 34 0)))
  refine aw_aload_n (i := 0) rfl d_X12_number_0 0 rfl ?_
  refine aw_Vi 1 [] [] d_X12_number_1 (cV_X12_look (d + 0) 0 0) kc_12 (ws_1 w) tw_2210 rfl (rr0 (Nat.le_of_ble_eq_true rfl) (Nat.le_of_ble_eq_true rfl)) (Nat.le_of_ble_eq_true rfl) xs0 (f_X12_look_112 d h w e_1_32 e_1_33 ) (fun r1 h2 kk => ?_)
  obtain ⟨ez8, ez9⟩ := kk
  obtain rfl := ez8.symm
  obtain rfl := ez9.symm
  refine aw_Si [.int (-1)] [] d_X12_number_4 (cS_X12_isDigit (d + 0) 0 0) tw_2226 rfl (rr0 (Nat.le_of_ble_eq_true rfl) (Nat.le_of_ble_eq_true rfl)) (Nat.le_of_ble_eq_true rfl) xs0 (f_X12_isDigit_131 d _  ) (fun r3 h4 kk => ?_)
  obtain ⟨ez8, ez9⟩ := kk
  obtain rfl := ez8.symm
  obtain rfl := ez9.symm
  refine aw_if_ne (tgt := 16) d_X12_number_7 rfl (fun c => absurd c (by decide)) (fun _ => ?_)
  refine aw_aload_n (i := 0) rfl d_X12_number_10 0 rfl ?_
  refine aw_Vv 1 [] [] d_X12_number_11 (cV_X12_bad (d + 0) 0 0) kc_12 (ws_1 w) tw_2229 rfl (rr0 (Nat.le_of_ble_eq_true rfl) (Nat.le_of_ble_eq_true rfl)) (Nat.le_of_ble_eq_true rfl) xs0 (f_X12_bad_113 d h w e_1_33 e_1_34 ) (fun h7 kk => ?_)
  have ez9 := kk
  obtain rfl := ez9.symm
  refine aw_iconst (v := (-1)) d_X12_number_14 ic_m1 ?_
  exact aw_iret rfl d_X12_number_15 ⟨Nat.le_refl _, Nat.le_refl _⟩ ⟨_, rfl, ⟨rfl, rfl⟩⟩
theorem f_X12_say_133 (d : Nat) (h : Hp_) (w : Wf h) (e_1_36 : h_i h 1 36 = 0)   : Cv (m_X12_say (d + 0) 0 0) [.ref 1, .int 0] h (fun h' => (h' = h_im (h_im h 226 (0 : Int32).toNatClampNeg 0) 1 36 1)) := by
  refine Ct.of (fun _ _ _ => trivial) rfl (Nat.le_of_ble_eq_true rfl) ?_
  show AW (m_X12_say (d + 0) 0 0) 0 0 0 [(0, .ref 1), (1, .int 0)] [] h (kV (fun h' => (h' = h_im (h_im h 226 (0 : Int32).toNatClampNeg 0) 1 36 1)))
  refine aw_aload_n (i := 0) rfl d_X12_say_0 0 rfl ?_
  refine aw_getr (k0 := 31) kc_12 (ws_1 w) (Nat.le_of_ble_eq_true rfl) tw_1773 d_X12_say_1 rfl (wr_1_31 w) ?_
  refine aw_aload_n (i := 0) rfl d_X12_say_4 0 rfl ?_
  refine aw_geti (k0 := 36) kc_12 (ws_1 w) (Nat.le_of_ble_eq_true rfl) tw_1778 d_X12_say_5 rfl ?_
  refine aw_vi (v2 := 0) e_1_36 ?_
  refine aw_iload_n (i := 1) rfl d_X12_say_8 1 rfl ?_
  refine aw_iast (ws_226 w) (vin_c (by decide)) d_X12_say_9 ?_
  refine aw_aload_n (i := 0) rfl d_X12_say_10 0 rfl ?_
  refine aw_dup d_X12_say_11 rfl ?_
  refine aw_geti (k0 := 36) kc_12 (ws_1 w) (Nat.le_of_ble_eq_true rfl) tw_1778 d_X12_say_12 rfl ?_
  refine aw_vi (v2 := 0) e_1_36 ?_
  refine aw_iconst (v := 1) d_X12_say_15 ic_1 ?_
  refine aw_iadd d_X12_say_16 ?_
  refine aw_vi (v2 := 1) (by decide) ?_
  refine aw_puti (k0 := 36) kc_12 (ws_1 w) (Nat.le_of_ble_eq_true rfl) tw_1778 d_X12_say_17 rfl rfl nf_i ?_
  exact aw_vret rfl d_X12_say_20 ⟨Nat.le_refl _, Nat.le_refl _⟩ ⟨rfl, rfl⟩
theorem f_X12_say_134 (d : Nat) (h : Hp_) (w : Wf h) (e_1_36 : h_i h 1 36 = 1)   : Cv (m_X12_say (d + 0) 0 0) [.ref 1, .int (-1)] h (fun h' => (h' = h_im (h_im h 226 (1 : Int32).toNatClampNeg (-1)) 1 36 2)) := by
  refine Ct.of (fun _ _ _ => trivial) rfl (Nat.le_of_ble_eq_true rfl) ?_
  show AW (m_X12_say (d + 0) 0 0) 0 0 0 [(0, .ref 1), (1, .int (-1))] [] h (kV (fun h' => (h' = h_im (h_im h 226 (1 : Int32).toNatClampNeg (-1)) 1 36 2)))
  refine aw_aload_n (i := 0) rfl d_X12_say_0 0 rfl ?_
  refine aw_getr (k0 := 31) kc_12 (ws_1 w) (Nat.le_of_ble_eq_true rfl) tw_1773 d_X12_say_1 rfl (wr_1_31 w) ?_
  refine aw_aload_n (i := 0) rfl d_X12_say_4 0 rfl ?_
  refine aw_geti (k0 := 36) kc_12 (ws_1 w) (Nat.le_of_ble_eq_true rfl) tw_1778 d_X12_say_5 rfl ?_
  refine aw_vi (v2 := 1) e_1_36 ?_
  refine aw_iload_n (i := 1) rfl d_X12_say_8 1 rfl ?_
  refine aw_iast (ws_226 w) (vin_c (by decide)) d_X12_say_9 ?_
  refine aw_aload_n (i := 0) rfl d_X12_say_10 0 rfl ?_
  refine aw_dup d_X12_say_11 rfl ?_
  refine aw_geti (k0 := 36) kc_12 (ws_1 w) (Nat.le_of_ble_eq_true rfl) tw_1778 d_X12_say_12 rfl ?_
  refine aw_vi (v2 := 1) e_1_36 ?_
  refine aw_iconst (v := 1) d_X12_say_15 ic_1 ?_
  refine aw_iadd d_X12_say_16 ?_
  refine aw_vi (v2 := 2) (by decide) ?_
  refine aw_puti (k0 := 36) kc_12 (ws_1 w) (Nat.le_of_ble_eq_true rfl) tw_1778 d_X12_say_17 rfl rfl nf_i ?_
  exact aw_vret rfl d_X12_say_20 ⟨Nat.le_refl _, Nat.le_refl _⟩ ⟨rfl, rfl⟩
theorem f_X12_atom_135 (d : Nat) (h : Hp_) (w : Wf h) (e_1_32 : h_i h 1 32 = 0) (e_1_33 : h_i h 1 33 = 0) (e_1_34 : h_i h 1 34 = (-1)) (e_1_36 : h_i h 1 36 = 0) (e_1_37 : h_i h 1 37 = 1)   : Cv (m_X12_atom (d + 2) 0 0) [.ref 1] h (fun h' => (h' = h_im (h_im (h_im (h_im (h_im h 1 34 0) 226 (0 : Int32).toNatClampNeg 0) 1 36 1) 226 (1 : Int32).toNatClampNeg (-1)) 1 36 2)) := by
  refine Ct.of (fun _ _ _ => trivial) rfl (Nat.le_of_ble_eq_true rfl) ?_
  show AW (m_X12_atom (d + 2) 0 0) 0 0 0 [(0, .ref 1)] [] h (kV (fun h' => (h' = h_im (h_im (h_im (h_im (h_im h 1 34 0) 226 (0 : Int32).toNatClampNeg 0) 1 36 1) 226 (1 : Int32).toNatClampNeg (-1)) 1 36 2)))
  refine aw_aload_n (i := 0) rfl d_X12_atom_0 0 rfl ?_
  refine aw_Vi 1 [] [] d_X12_atom_1 (cV_X12_look (d + 0) 0 0) kc_12 (ws_1 w) tw_2210 rfl (rr0 (Nat.le_of_ble_eq_true rfl) (Nat.le_of_ble_eq_true rfl)) (Nat.le_of_ble_eq_true rfl) xs0 (f_X12_look_112 d h w e_1_32 e_1_33 ) (fun r1 h2 kk => ?_)
  obtain ⟨ez8, ez9⟩ := kk
  obtain rfl := ez8.symm
  obtain rfl := ez9.symm
  refine aw_istore_n (i := 1) rfl [(0, .ref 1), (1, .int (-1))] d_X12_atom_4 (Nat.le_of_ble_eq_true rfl) rfl rfl ?_
  refine aw_iload_n (i := 1) rfl d_X12_atom_5 1 rfl ?_
  refine aw_bipush (v := 91) d_X12_atom_6 ib_91 ?_
  refine aw_icmp_ne (tgt := 31) d_X12_atom_8 rfl (fun _ => ?_) (fun c => absurd c (by decide))
  refine aw_iload_n (i := 1) rfl d_X12_atom_31 1 rfl ?_
  refine aw_aload_n (i := 0) rfl d_X12_atom_32 0 rfl ?_
  refine aw_geti (k0 := 37) kc_12 (ws_1 w) (Nat.le_of_ble_eq_true rfl) tw_1779 d_X12_atom_33 rfl ?_
  refine aw_vi (v2 := 1) e_1_37 ?_
  refine aw_Si [.int (-1), .int 1] [] d_X12_atom_36 (cS_X12_isLetter (d + 0) 0 0) tw_2272 rfl (rr0 (Nat.le_of_ble_eq_true rfl) (Nat.le_of_ble_eq_true rfl)) (Nat.le_of_ble_eq_true rfl) xs0 (f_X12_isLetter_130 d _  ) (fun r4 h5 kk => ?_)
  obtain ⟨ez8, ez9⟩ := kk
  obtain rfl := ez8.symm
  obtain rfl := ez9.symm
  refine aw_if_eq (tgt := 65) d_X12_atom_39 rfl (fun _ => ?_) (fun c => absurd c (by decide))
  refine aw_aload_n (i := 0) rfl d_X12_atom_65 0 rfl ?_
  refine aw_Vi 1 [] [] d_X12_atom_66 (cV_X12_number (d + 1) 0 0) kc_12 (ws_1 w) tw_2222 rfl (rr0 (Nat.le_of_ble_eq_true rfl) (Nat.le_of_ble_eq_true rfl)) (Nat.le_of_ble_eq_true rfl) xs0 (f_X12_number_132 d h w e_1_32 e_1_33 e_1_34 ) (fun r7 h8 kk => ?_)
  obtain ⟨ez8, ez9⟩ := kk
  obtain rfl := ez8.symm
  obtain rfl := ez9.symm
  refine aw_istore_n (i := 2) rfl [(0, .ref 1), (1, .int (-1)), (2, .int (-1))] d_X12_atom_69 (Nat.le_of_ble_eq_true rfl) rfl rfl ?_
  refine aw_aload_n (i := 0) rfl d_X12_atom_70 0 rfl ?_
  refine aw_iconst (v := 0) d_X12_atom_71 ic_0 ?_
  refine aw_Vv 1 [.int 0] [] d_X12_atom_72 (cV_X12_say (d + 0) 0 0) kc_12 (ws_1 w) tw_2214 rfl (rr0 (Nat.le_of_ble_eq_true rfl) (Nat.le_of_ble_eq_true rfl)) (Nat.le_of_ble_eq_true rfl) xs0 (f_X12_say_133 d (h_im h 1 34 0) w e_1_36 ) (fun h10 kk => ?_)
  have ez9 := kk
  obtain rfl := ez9.symm
  refine aw_aload_n (i := 0) rfl d_X12_atom_75 0 rfl ?_
  refine aw_iload_n (i := 2) rfl d_X12_atom_76 2 rfl ?_
  refine aw_Vv 1 [.int (-1)] [] d_X12_atom_77 (cV_X12_say (d + 0) 0 0) kc_12 (ws_1 w) tw_2214 rfl (rr0 (Nat.le_of_ble_eq_true rfl) (Nat.le_of_ble_eq_true rfl)) (Nat.le_of_ble_eq_true rfl) xs0 (f_X12_say_134 d (h_im (h_im (h_im h 1 34 0) 226 (0 : Int32).toNatClampNeg 0) 1 36 1) w rfl ) (fun h12 kk => ?_)
  have ez9 := kk
  obtain rfl := ez9.symm
  exact aw_vret rfl d_X12_atom_80 ⟨Nat.le_refl _, Nat.le_refl _⟩ ⟨rfl, rfl⟩
theorem f_X12_term_136 (d : Nat) (h : Hp_) (w : Wf h) (e_1_32 : h_i h 1 32 = 0) (e_1_33 : h_i h 1 33 = 0) (e_1_34 : h_i h 1 34 = (-1)) (e_1_36 : h_i h 1 36 = 0) (e_1_37 : h_i h 1 37 = 1)   : Cv (m_X12_term (d + 3) 0 0) [.ref 1] h (fun h' => (h' = h_im (h_im (h_im (h_im (h_im h 1 34 0) 226 (0 : Int32).toNatClampNeg 0) 1 36 1) 226 (1 : Int32).toNatClampNeg (-1)) 1 36 2)) := by
  refine Ct.of (fun _ _ _ => trivial) rfl (Nat.le_of_ble_eq_true rfl) ?_
  show AW (m_X12_term (d + 3) 0 0) 0 0 0 [(0, .ref 1)] [] h (kV (fun h' => (h' = h_im (h_im (h_im (h_im (h_im h 1 34 0) 226 (0 : Int32).toNatClampNeg 0) 1 36 1) 226 (1 : Int32).toNatClampNeg (-1)) 1 36 2)))
  refine aw_aload_n (i := 0) rfl d_X12_term_0 0 rfl ?_
  refine aw_Vv 1 [] [] d_X12_term_1 (cV_X12_atom (d + 2) 0 0) kc_12 (ws_1 w) tw_2260 rfl (rr0 (Nat.le_of_ble_eq_true rfl) (Nat.le_of_ble_eq_true rfl)) (Nat.le_of_ble_eq_true rfl) xs0 (f_X12_atom_135 d h w e_1_32 e_1_33 e_1_34 e_1_36 e_1_37 ) (fun h2 kk => ?_)
  have ez9 := kk
  obtain rfl := ez9.symm
  refine aw_aload_n (i := 0) rfl d_X12_term_4 0 rfl ?_
  refine aw_geti (k0 := 34) kc_12 (ws_1 w) (Nat.le_of_ble_eq_true rfl) tw_1776 d_X12_term_5 rfl ?_
  refine aw_vi (v2 := 0) rfl ?_
  refine aw_iconst (v := (-1)) d_X12_term_8 ic_m1 ?_
  refine aw_icmp_ne (tgt := 44) d_X12_term_9 rfl (fun _ => ?_) (fun c => absurd c (by decide))
  exact aw_vret rfl d_X12_term_44 ⟨Nat.le_refl _, Nat.le_refl _⟩ ⟨rfl, rfl⟩
theorem f_X12_sum_137 (d : Nat) (h : Hp_) (w : Wf h) (e_1_32 : h_i h 1 32 = 0) (e_1_33 : h_i h 1 33 = 0) (e_1_34 : h_i h 1 34 = (-1)) (e_1_36 : h_i h 1 36 = 0) (e_1_37 : h_i h 1 37 = 1)   : Cv (m_X12_sum (d + 4) 0 0) [.ref 1] h (fun h' => (h' = h_im (h_im (h_im (h_im (h_im h 1 34 0) 226 (0 : Int32).toNatClampNeg 0) 1 36 1) 226 (1 : Int32).toNatClampNeg (-1)) 1 36 2)) := by
  refine Ct.of (fun _ _ _ => trivial) rfl (Nat.le_of_ble_eq_true rfl) ?_
  show AW (m_X12_sum (d + 4) 0 0) 0 0 0 [(0, .ref 1)] [] h (kV (fun h' => (h' = h_im (h_im (h_im (h_im (h_im h 1 34 0) 226 (0 : Int32).toNatClampNeg 0) 1 36 1) 226 (1 : Int32).toNatClampNeg (-1)) 1 36 2)))
  refine aw_aload_n (i := 0) rfl d_X12_sum_0 0 rfl ?_
  refine aw_Vv 1 [] [] d_X12_sum_1 (cV_X12_term (d + 3) 0 0) kc_12 (ws_1 w) tw_2256 rfl (rr0 (Nat.le_of_ble_eq_true rfl) (Nat.le_of_ble_eq_true rfl)) (Nat.le_of_ble_eq_true rfl) xs0 (f_X12_term_136 d h w e_1_32 e_1_33 e_1_34 e_1_36 e_1_37 ) (fun h2 kk => ?_)
  have ez9 := kk
  obtain rfl := ez9.symm
  refine aw_aload_n (i := 0) rfl d_X12_sum_4 0 rfl ?_
  refine aw_Vi 1 [] [] d_X12_sum_5 (cV_X12_look (d + 0) 0 0) kc_12 (ws_1 w) tw_2210 rfl (rr0 (Nat.le_of_ble_eq_true rfl) (Nat.le_of_ble_eq_true rfl)) (Nat.le_of_ble_eq_true rfl) xs0 (f_X12_look_112 d (h_im (h_im (h_im (h_im (h_im h 1 34 0) 226 (0 : Int32).toNatClampNeg 0) 1 36 1) 226 (1 : Int32).toNatClampNeg (-1)) 1 36 2) w e_1_32 e_1_33 ) (fun r3 h4 kk => ?_)
  obtain ⟨ez8, ez9⟩ := kk
  obtain rfl := ez8.symm
  obtain rfl := ez9.symm
  refine aw_istore_n (i := 1) rfl [(0, .ref 1), (1, .int (-1))] d_X12_sum_8 (Nat.le_of_ble_eq_true rfl) rfl rfl ?_
  refine aw_aload_n (i := 0) rfl d_X12_sum_9 0 rfl ?_
  refine aw_geti (k0 := 34) kc_12 (ws_1 w) (Nat.le_of_ble_eq_true rfl) tw_1776 d_X12_sum_10 rfl ?_
  refine aw_vi (v2 := 0) rfl ?_
  refine aw_iconst (v := (-1)) d_X12_sum_13 ic_m1 ?_
  refine aw_icmp_ne (tgt := 56) d_X12_sum_14 rfl (fun _ => ?_) (fun c => absurd c (by decide))
  exact aw_vret rfl d_X12_sum_56 ⟨Nat.le_refl _, Nat.le_refl _⟩ ⟨rfl, rfl⟩
theorem f_X12_isSign_138 (d : Nat) (h : Hp_)    : Ci (m_X12_isSign (d + 0) 0 0) [.int (-1)] h (fun r h' => (r = 0 ∧ h' = h)) := by
  refine Ct.of (fun _ _ _ => trivial) rfl (Nat.le_of_ble_eq_true rfl) ?_
  show AW (m_X12_isSign (d + 0) 0 0) 0 0 0 [(0, .int (-1))] [] h (kI (fun r h' => (r = 0 ∧ h' = h)))
  refine aw_iload_n (i := 0) rfl d_X12_isSign_0 0 rfl ?_
  refine aw_bipush (v := 61) d_X12_isSign_1 ib_61 ?_
  refine aw_icmp_eq (tgt := 18) d_X12_isSign_3 rfl (fun c => absurd c (by decide)) (fun _ => ?_)
  refine aw_iload_n (i := 0) rfl d_X12_isSign_6 0 rfl ?_
  refine aw_bipush (v := 60) d_X12_isSign_7 ib_60 ?_
  refine aw_icmp_eq (tgt := 18) d_X12_isSign_9 rfl (fun c => absurd c (by decide)) (fun _ => ?_)
  refine aw_iload_n (i := 0) rfl d_X12_isSign_12 0 rfl ?_
  refine aw_bipush (v := 62) d_X12_isSign_13 ib_62 ?_
  refine aw_icmp_ne (tgt := 22) d_X12_isSign_15 rfl (fun _ => ?_) (fun c => absurd c (by decide))
  refine aw_iconst (v := 0) d_X12_isSign_22 ic_0 ?_
  exact aw_zret rfl rfl d_X12_isSign_23 ⟨Nat.le_refl _, Nat.le_refl _⟩ ⟨_, rfl, ⟨rfl, rfl⟩⟩
theorem f_X12_bad_139 (d : Nat) (h : Hp_) (w : Wf h) (e_1_34 : h_i h 1 34 = 0)   : Cv (m_X12_bad (d + 0) 0 0) [.ref 1] h (fun h' => (h' = h_im h 1 34 0)) := by
  refine Ct.of (fun _ _ _ => trivial) rfl (Nat.le_of_ble_eq_true rfl) ?_
  show AW (m_X12_bad (d + 0) 0 0) 0 0 0 [(0, .ref 1)] [] h (kV (fun h' => (h' = h_im h 1 34 0)))
  refine aw_aload_n (i := 0) rfl d_X12_bad_0 0 rfl ?_
  refine aw_aload_n (i := 0) rfl d_X12_bad_1 0 rfl ?_
  refine aw_geti (k0 := 34) kc_12 (ws_1 w) (Nat.le_of_ble_eq_true rfl) tw_1776 d_X12_bad_2 rfl ?_
  refine aw_vi (v2 := 0) e_1_34 ?_
  refine aw_iconst (v := (-1)) d_X12_bad_5 ic_m1 ?_
  refine aw_icmp_ne (tgt := 16) d_X12_bad_6 rfl (fun _ => ?_) (fun c => absurd c (by decide))
  refine aw_aload_n (i := 0) rfl d_X12_bad_16 0 rfl ?_
  refine aw_geti (k0 := 34) kc_12 (ws_1 w) (Nat.le_of_ble_eq_true rfl) tw_1776 d_X12_bad_17 rfl ?_
  refine aw_vi (v2 := 0) e_1_34 ?_
  refine aw_puti (k0 := 34) kc_12 (ws_1 w) (Nat.le_of_ble_eq_true rfl) tw_1776 d_X12_bad_20 rfl rfl nf_i ?_
  exact aw_vret rfl d_X12_bad_23 ⟨Nat.le_refl _, Nat.le_refl _⟩ ⟨rfl, rfl⟩
theorem f_X12_compare_140 (d : Nat) (h : Hp_) (w : Wf h) (e_1_34 : h_i h 1 34 = 0)   : Cv (m_X12_compare (d + 1) 0 0) [.ref 1] h (fun h' => (h' = h_im h 1 34 0)) := by
  refine Ct.of (fun _ _ _ => trivial) rfl (Nat.le_of_ble_eq_true rfl) ?_
  show AW (m_X12_compare (d + 1) 0 0) 0 0 0 [(0, .ref 1)] [] h (kV (fun h' => (h' = h_im h 1 34 0)))
  refine aw_aload_n (i := 0) rfl d_X12_compare_0 0 rfl ?_
  refine aw_geti (k0 := 34) kc_12 (ws_1 w) (Nat.le_of_ble_eq_true rfl) tw_1776 d_X12_compare_1 rfl ?_
  refine aw_vi (v2 := 0) e_1_34 ?_
  refine aw_iconst (v := (-1)) d_X12_compare_4 ic_m1 ?_
  refine aw_icmp_ne (tgt := 15) d_X12_compare_5 rfl (fun _ => ?_) (fun c => absurd c (by decide))
  refine aw_iconst (v := (-1)) d_X12_compare_15 ic_m1 ?_
  refine aw_istore_n (i := 1) rfl [(0, .ref 1), (1, .int (-1))] d_X12_compare_16 (Nat.le_of_ble_eq_true rfl) rfl rfl ?_
  refine aw_iload_n (i := 1) rfl d_X12_compare_17 1 rfl ?_
  refine aw_Si [.int (-1)] [] d_X12_compare_18 (cS_X12_isSign (d + 0) 0 0) tw_2249 rfl (rr0 (Nat.le_of_ble_eq_true rfl) (Nat.le_of_ble_eq_true rfl)) (Nat.le_of_ble_eq_true rfl) xs0 (f_X12_isSign_138 d _  ) (fun r2 h3 kk => ?_)
  obtain ⟨ez8, ez9⟩ := kk
  obtain rfl := ez8.symm
  obtain rfl := ez9.symm
  refine aw_if_ne (tgt := 29) d_X12_compare_21 rfl (fun c => absurd c (by decide)) (fun _ => ?_)
  refine aw_aload_n (i := 0) rfl d_X12_compare_24 0 rfl ?_
  refine aw_Vv 1 [] [] d_X12_compare_25 (cV_X12_bad (d + 0) 0 0) kc_12 (ws_1 w) tw_2229 rfl (rr0 (Nat.le_of_ble_eq_true rfl) (Nat.le_of_ble_eq_true rfl)) (Nat.le_of_ble_eq_true rfl) xs0 (f_X12_bad_139 d h w e_1_34 ) (fun h6 kk => ?_)
  have ez9 := kk
  obtain rfl := ez9.symm
  exact aw_vret rfl d_X12_compare_28 ⟨Nat.le_refl _, Nat.le_refl _⟩ ⟨rfl, rfl⟩
theorem f_X12_unit_141 (d : Nat) (h : Hp_) (w : Wf h) (e_1_32 : h_i h 1 32 = 0) (e_1_33 : h_i h 1 33 = 0) (e_1_34 : h_i h 1 34 = (-1)) (e_1_36 : h_i h 1 36 = 0) (e_1_37 : h_i h 1 37 = 1)   : Cv (m_X12_unit (d + 5) 0 0) [.ref 1] h (fun h' => (h' = h_im (h_im (h_im (h_im (h_im (h_im h 1 34 0) 226 (0 : Int32).toNatClampNeg 0) 1 36 1) 226 (1 : Int32).toNatClampNeg (-1)) 1 36 2) 1 34 0)) := by
  refine Ct.of (fun _ _ _ => trivial) rfl (Nat.le_of_ble_eq_true rfl) ?_
  show AW (m_X12_unit (d + 5) 0 0) 0 0 0 [(0, .ref 1)] [] h (kV (fun h' => (h' = h_im (h_im (h_im (h_im (h_im (h_im h 1 34 0) 226 (0 : Int32).toNatClampNeg 0) 1 36 1) 226 (1 : Int32).toNatClampNeg (-1)) 1 36 2) 1 34 0)))
  refine aw_aload_n (i := 0) rfl d_X12_unit_0 0 rfl ?_
  refine aw_Vi 1 [] [] d_X12_unit_1 (cV_X12_look (d + 0) 0 0) kc_12 (ws_1 w) tw_2210 rfl (rr0 (Nat.le_of_ble_eq_true rfl) (Nat.le_of_ble_eq_true rfl)) (Nat.le_of_ble_eq_true rfl) xs0 (f_X12_look_112 d h w e_1_32 e_1_33 ) (fun r1 h2 kk => ?_)
  obtain ⟨ez8, ez9⟩ := kk
  obtain rfl := ez8.symm
  obtain rfl := ez9.symm
  refine aw_istore_n (i := 1) rfl [(0, .ref 1), (1, .int (-1))] d_X12_unit_4 (Nat.le_of_ble_eq_true rfl) rfl rfl ?_
  refine aw_iload_n (i := 1) rfl d_X12_unit_5 1 rfl ?_
  refine aw_bipush (v := 33) d_X12_unit_6 ib_33 ?_
  refine aw_icmp_ne (tgt := 41) d_X12_unit_8 rfl (fun _ => ?_) (fun c => absurd c (by decide))
  refine aw_iload_n (i := 1) rfl d_X12_unit_41 1 rfl ?_
  refine aw_bipush (v := 40) d_X12_unit_42 ib_40 ?_
  refine aw_icmp_ne (tgt := 68) d_X12_unit_44 rfl (fun _ => ?_) (fun c => absurd c (by decide))
  refine aw_aload_n (i := 0) rfl d_X12_unit_68 0 rfl ?_
  refine aw_Vv 1 [] [] d_X12_unit_69 (cV_X12_sum (d + 4) 0 0) kc_12 (ws_1 w) tw_2252 rfl (rr0 (Nat.le_of_ble_eq_true rfl) (Nat.le_of_ble_eq_true rfl)) (Nat.le_of_ble_eq_true rfl) xs0 (f_X12_sum_137 d h w e_1_32 e_1_33 e_1_34 e_1_36 e_1_37 ) (fun h6 kk => ?_)
  have ez9 := kk
  obtain rfl := ez9.symm
  refine aw_aload_n (i := 0) rfl d_X12_unit_72 0 rfl ?_
  refine aw_Vv 1 [] [] d_X12_unit_73 (cV_X12_compare (d + 1) 0 0) kc_12 (ws_1 w) tw_2245 rfl (rr0 (Nat.le_of_ble_eq_true rfl) (Nat.le_of_ble_eq_true rfl)) (Nat.le_of_ble_eq_true rfl) xs0 (f_X12_compare_140 d (h_im (h_im (h_im (h_im (h_im h 1 34 0) 226 (0 : Int32).toNatClampNeg 0) 1 36 1) 226 (1 : Int32).toNatClampNeg (-1)) 1 36 2) w rfl ) (fun h8 kk => ?_)
  have ez9 := kk
  obtain rfl := ez9.symm
  exact aw_vret rfl d_X12_unit_76 ⟨Nat.le_refl _, Nat.le_refl _⟩ ⟨rfl, rfl⟩
theorem f_X12_part_142 (d : Nat) (h : Hp_) (w : Wf h) (e_1_32 : h_i h 1 32 = 0) (e_1_33 : h_i h 1 33 = 0) (e_1_34 : h_i h 1 34 = (-1)) (e_1_36 : h_i h 1 36 = 0) (e_1_37 : h_i h 1 37 = 1)   : Cv (m_X12_part (d + 6) 0 0) [.ref 1, .int 0] h (fun h' => (h' = h_im (h_im (h_im (h_im (h_im (h_im h 1 34 0) 226 (0 : Int32).toNatClampNeg 0) 1 36 1) 226 (1 : Int32).toNatClampNeg (-1)) 1 36 2) 1 34 0)) := by
  refine Ct.of (fun _ _ _ => trivial) rfl (Nat.le_of_ble_eq_true rfl) ?_
  show AW (m_X12_part (d + 6) 0 0) 0 0 0 [(0, .ref 1), (1, .int 0)] [] h (kV (fun h' => (h' = h_im (h_im (h_im (h_im (h_im (h_im h 1 34 0) 226 (0 : Int32).toNatClampNeg 0) 1 36 1) 226 (1 : Int32).toNatClampNeg (-1)) 1 36 2) 1 34 0)))
  refine aw_iload_n (i := 1) rfl d_X12_part_0 1 rfl ?_
  refine aw_if_eq (tgt := 11) d_X12_part_1 rfl (fun _ => ?_) (fun c => absurd c (by decide))
  refine aw_aload_n (i := 0) rfl d_X12_part_11 0 rfl ?_
  refine aw_Vv 1 [] [] d_X12_part_12 (cV_X12_unit (d + 5) 0 0) kc_12 (ws_1 w) tw_2275 rfl (rr0 (Nat.le_of_ble_eq_true rfl) (Nat.le_of_ble_eq_true rfl)) (Nat.le_of_ble_eq_true rfl) xs0 (f_X12_unit_141 d h w e_1_32 e_1_33 e_1_34 e_1_36 e_1_37 ) (fun h3 kk => ?_)
  have ez9 := kk
  obtain rfl := ez9.symm
  refine aw_aload_n (i := 0) rfl d_X12_part_15 0 rfl ?_
  refine aw_geti (k0 := 34) kc_12 (ws_1 w) (Nat.le_of_ble_eq_true rfl) tw_1776 d_X12_part_16 rfl ?_
  refine aw_vi (v2 := 0) rfl ?_
  refine aw_iconst (v := (-1)) d_X12_part_19 ic_m1 ?_
  refine aw_icmp_ne (tgt := 55) d_X12_part_20 rfl (fun _ => ?_) (fun c => absurd c (by decide))
  exact aw_vret rfl d_X12_part_55 ⟨Nat.le_refl _, Nat.le_refl _⟩ ⟨rfl, rfl⟩
theorem f_X12_condition_143 (d : Nat) (h : Hp_) (w : Wf h) (e_1_32 : h_i h 1 32 = 0) (e_1_33 : h_i h 1 33 = 0) (e_1_34 : h_i h 1 34 = (-1)) (e_1_36 : h_i h 1 36 = 0) (e_1_37 : h_i h 1 37 = 1)   : Cv (m_X12_condition (d + 7) 0 0) [.ref 1, .int 0] h (fun h' => (h' = h_im (h_im (h_im (h_im (h_im (h_im h 1 34 0) 226 (0 : Int32).toNatClampNeg 0) 1 36 1) 226 (1 : Int32).toNatClampNeg (-1)) 1 36 2) 1 34 0)) := by
  refine Ct.of (fun _ _ _ => trivial) rfl (Nat.le_of_ble_eq_true rfl) ?_
  show AW (m_X12_condition (d + 7) 0 0) 0 0 0 [(0, .ref 1), (1, .int 0)] [] h (kV (fun h' => (h' = h_im (h_im (h_im (h_im (h_im (h_im h 1 34 0) 226 (0 : Int32).toNatClampNeg 0) 1 36 1) 226 (1 : Int32).toNatClampNeg (-1)) 1 36 2) 1 34 0)))
  refine aw_aload_n (i := 0) rfl d_X12_condition_0 0 rfl ?_
  refine aw_iload_n (i := 1) rfl d_X12_condition_1 1 rfl ?_
  refine aw_Vv 1 [.int 0] [] d_X12_condition_2 (cV_X12_part (d + 6) 0 0) kc_12 (ws_1 w) tw_2241 rfl (rr0 (Nat.le_of_ble_eq_true rfl) (Nat.le_of_ble_eq_true rfl)) (Nat.le_of_ble_eq_true rfl) xs0 (f_X12_part_142 d h w e_1_32 e_1_33 e_1_34 e_1_36 e_1_37 ) (fun h2 kk => ?_)
  have ez9 := kk
  obtain rfl := ez9.symm
  refine aw_aload_n (i := 0) rfl d_X12_condition_5 0 rfl ?_
  refine aw_geti (k0 := 34) kc_12 (ws_1 w) (Nat.le_of_ble_eq_true rfl) tw_1776 d_X12_condition_6 rfl ?_
  refine aw_vi (v2 := 0) rfl ?_
  refine aw_iconst (v := (-1)) d_X12_condition_9 ic_m1 ?_
  refine aw_icmp_ne (tgt := 46) d_X12_condition_10 rfl (fun _ => ?_) (fun c => absurd c (by decide))
  exact aw_vret rfl d_X12_condition_46 ⟨Nat.le_refl _, Nat.le_refl _⟩ ⟨rfl, rfl⟩
theorem f_X12_say_144 (d : Nat) (h : Hp_) (w : Wf h) (e_1_36 : h_i h 1 36 = 2)   : Cv (m_X12_say (d + 0) 0 0) [.ref 1, .int 2] h (fun h' => (h' = h_im (h_im h 226 (2 : Int32).toNatClampNeg 2) 1 36 3)) := by
  refine Ct.of (fun _ _ _ => trivial) rfl (Nat.le_of_ble_eq_true rfl) ?_
  show AW (m_X12_say (d + 0) 0 0) 0 0 0 [(0, .ref 1), (1, .int 2)] [] h (kV (fun h' => (h' = h_im (h_im h 226 (2 : Int32).toNatClampNeg 2) 1 36 3)))
  refine aw_aload_n (i := 0) rfl d_X12_say_0 0 rfl ?_
  refine aw_getr (k0 := 31) kc_12 (ws_1 w) (Nat.le_of_ble_eq_true rfl) tw_1773 d_X12_say_1 rfl (wr_1_31 w) ?_
  refine aw_aload_n (i := 0) rfl d_X12_say_4 0 rfl ?_
  refine aw_geti (k0 := 36) kc_12 (ws_1 w) (Nat.le_of_ble_eq_true rfl) tw_1778 d_X12_say_5 rfl ?_
  refine aw_vi (v2 := 2) e_1_36 ?_
  refine aw_iload_n (i := 1) rfl d_X12_say_8 1 rfl ?_
  refine aw_iast (ws_226 w) (vin_c (by decide)) d_X12_say_9 ?_
  refine aw_aload_n (i := 0) rfl d_X12_say_10 0 rfl ?_
  refine aw_dup d_X12_say_11 rfl ?_
  refine aw_geti (k0 := 36) kc_12 (ws_1 w) (Nat.le_of_ble_eq_true rfl) tw_1778 d_X12_say_12 rfl ?_
  refine aw_vi (v2 := 2) e_1_36 ?_
  refine aw_iconst (v := 1) d_X12_say_15 ic_1 ?_
  refine aw_iadd d_X12_say_16 ?_
  refine aw_vi (v2 := 3) (by decide) ?_
  refine aw_puti (k0 := 36) kc_12 (ws_1 w) (Nat.le_of_ble_eq_true rfl) tw_1778 d_X12_say_17 rfl rfl nf_i ?_
  exact aw_vret rfl d_X12_say_20 ⟨Nat.le_refl _, Nat.le_refl _⟩ ⟨rfl, rfl⟩
theorem f_X12_ask_145 (d : Nat) (h : Hp_) (w : Wf h) (e_1_33 : h_i h 1 33 = 0) (e_1_34 : h_i h 1 34 = 0) (e_1_36 : h_i h 1 36 = 2)   : Cv (m_X12_ask (d + 1) 0 0) [.ref 1] h (fun h' => (h' = h_im (h_im (h_im h 1 33 1) 226 (2 : Int32).toNatClampNeg 2) 1 36 3)) := by
  refine Ct.of (fun _ _ _ => trivial) rfl (Nat.le_of_ble_eq_true rfl) ?_
  show AW (m_X12_ask (d + 1) 0 0) 0 0 0 [(0, .ref 1)] [] h (kV (fun h' => (h' = h_im (h_im (h_im h 1 33 1) 226 (2 : Int32).toNatClampNeg 2) 1 36 3)))
  refine aw_aload_n (i := 0) rfl d_X12_ask_0 0 rfl ?_
  refine aw_geti (k0 := 34) kc_12 (ws_1 w) (Nat.le_of_ble_eq_true rfl) tw_1776 d_X12_ask_1 rfl ?_
  refine aw_vi (v2 := 0) e_1_34 ?_
  refine aw_iconst (v := (-1)) d_X12_ask_4 ic_m1 ?_
  refine aw_icmp_ne (tgt := 21) d_X12_ask_5 rfl (fun _ => ?_) (fun c => absurd c (by decide))
  refine aw_aload_n (i := 0) rfl d_X12_ask_21 0 rfl ?_
  refine aw_dup d_X12_ask_22 rfl ?_
  refine aw_geti (k0 := 33) kc_12 (ws_1 w) (Nat.le_of_ble_eq_true rfl) tw_1775 d_X12_ask_23 rfl ?_
  refine aw_vi (v2 := 0) e_1_33 ?_
  refine aw_iconst (v := 1) d_X12_ask_26 ic_1 ?_
  refine aw_iadd d_X12_ask_27 ?_
  refine aw_vi (v2 := 1) (by decide) ?_
  refine aw_puti (k0 := 33) kc_12 (ws_1 w) (Nat.le_of_ble_eq_true rfl) tw_1775 d_X12_ask_28 rfl rfl nf_i ?_
  refine aw_aload_n (i := 0) rfl d_X12_ask_31 0 rfl ?_
  refine aw_iconst (v := 2) d_X12_ask_32 ic_2 ?_
  refine aw_Vv 1 [.int 2] [] d_X12_ask_33 (cV_X12_say (d + 0) 0 0) kc_12 (ws_1 w) tw_2214 rfl (rr0 (Nat.le_of_ble_eq_true rfl) (Nat.le_of_ble_eq_true rfl)) (Nat.le_of_ble_eq_true rfl) xs0 (f_X12_say_144 d (h_im h 1 33 1) w e_1_36 ) (fun h3 kk => ?_)
  have ez9 := kk
  obtain rfl := ez9.symm
  exact aw_vret rfl d_X12_ask_36 ⟨Nat.le_refl _, Nat.le_refl _⟩ ⟨rfl, rfl⟩
theorem f_X12_clause_146 (d : Nat) (h : Hp_) (w : Wf h) (e_1_32 : h_i h 1 32 = 0) (e_1_33 : h_i h 1 33 = 0) (e_1_34 : h_i h 1 34 = (-1)) (e_1_36 : h_i h 1 36 = 0) (e_1_37 : h_i h 1 37 = 1)   : Cv (m_X12_clause (d + 8) 0 0) [.ref 1] h (fun h' => (h' = h_im (h_im (h_im (h_im (h_im (h_im (h_im (h_im (h_im h 1 34 0) 226 (0 : Int32).toNatClampNeg 0) 1 36 1) 226 (1 : Int32).toNatClampNeg (-1)) 1 36 2) 1 34 0) 1 33 1) 226 (2 : Int32).toNatClampNeg 2) 1 36 3)) := by
  refine Ct.of (fun _ _ _ => trivial) rfl (Nat.le_of_ble_eq_true rfl) ?_
  show AW (m_X12_clause (d + 8) 0 0) 0 0 0 [(0, .ref 1)] [] h (kV (fun h' => (h' = h_im (h_im (h_im (h_im (h_im (h_im (h_im (h_im (h_im h 1 34 0) 226 (0 : Int32).toNatClampNeg 0) 1 36 1) 226 (1 : Int32).toNatClampNeg (-1)) 1 36 2) 1 34 0) 1 33 1) 226 (2 : Int32).toNatClampNeg 2) 1 36 3)))
  refine aw_aload_n (i := 0) rfl d_X12_clause_0 0 rfl ?_
  refine aw_Vi 1 [] [] d_X12_clause_1 (cV_X12_look (d + 0) 0 0) kc_12 (ws_1 w) tw_2210 rfl (rr0 (Nat.le_of_ble_eq_true rfl) (Nat.le_of_ble_eq_true rfl)) (Nat.le_of_ble_eq_true rfl) xs0 (f_X12_look_112 d h w e_1_32 e_1_33 ) (fun r1 h2 kk => ?_)
  obtain ⟨ez8, ez9⟩ := kk
  obtain rfl := ez8.symm
  obtain rfl := ez9.symm
  refine aw_istore_n (i := 1) rfl [(0, .ref 1), (1, .int (-1))] d_X12_clause_4 (Nat.le_of_ble_eq_true rfl) rfl rfl ?_
  refine aw_aload_n (i := 0) rfl d_X12_clause_5 0 rfl ?_
  refine aw_geti (k0 := 37) kc_12 (ws_1 w) (Nat.le_of_ble_eq_true rfl) tw_1779 d_X12_clause_6 rfl ?_
  refine aw_vi (v2 := 1) e_1_37 ?_
  refine aw_iconst (v := 1) d_X12_clause_9 ic_1 ?_
  refine aw_icmp_ne (tgt := 121) d_X12_clause_10 rfl (fun c => absurd c (by decide)) (fun _ => ?_)
  refine aw_aload_n (i := 0) rfl d_X12_clause_13 0 rfl ?_
  refine aw_iconst (v := 0) d_X12_clause_14 ic_0 ?_
  refine aw_Vv 1 [.int 0] [] d_X12_clause_15 (cV_X12_condition (d + 7) 0 0) kc_12 (ws_1 w) tw_2237 rfl (rr0 (Nat.le_of_ble_eq_true rfl) (Nat.le_of_ble_eq_true rfl)) (Nat.le_of_ble_eq_true rfl) xs0 (f_X12_condition_143 d h w e_1_32 e_1_33 e_1_34 e_1_36 e_1_37 ) (fun h5 kk => ?_)
  have ez9 := kk
  obtain rfl := ez9.symm
  refine aw_aload_n (i := 0) rfl d_X12_clause_18 0 rfl ?_
  refine aw_Vv 1 [] [] d_X12_clause_19 (cV_X12_ask (d + 1) 0 0) kc_12 (ws_1 w) tw_2279 rfl (rr0 (Nat.le_of_ble_eq_true rfl) (Nat.le_of_ble_eq_true rfl)) (Nat.le_of_ble_eq_true rfl) xs0 (f_X12_ask_145 d (h_im (h_im (h_im (h_im (h_im (h_im h 1 34 0) 226 (0 : Int32).toNatClampNeg 0) 1 36 1) 226 (1 : Int32).toNatClampNeg (-1)) 1 36 2) 1 34 0) w e_1_33 rfl rfl ) (fun h7 kk => ?_)
  have ez9 := kk
  obtain rfl := ez9.symm
  refine aw_aload_n (i := 0) rfl d_X12_clause_22 0 rfl ?_
  refine aw_geti (k0 := 34) kc_12 (ws_1 w) (Nat.le_of_ble_eq_true rfl) tw_1776 d_X12_clause_23 rfl ?_
  refine aw_vi (v2 := 0) rfl ?_
  refine aw_iconst (v := (-1)) d_X12_clause_26 ic_m1 ?_
  refine aw_icmp_eq (tgt := 31) d_X12_clause_27 rfl (fun c => absurd c (by decide)) (fun _ => ?_)
  exact aw_vret rfl d_X12_clause_30 ⟨Nat.le_refl _, Nat.le_refl _⟩ ⟨rfl, rfl⟩
theorem f_X12_fault_147 (d : Nat) (h : Hp_) (w : Wf h) (e_1_32 : h_i h 1 32 = 0)   : Ci (m_X12_fault (d + 9) 0 0) [.ref 1, .int 1] h (fun r h' => (r = 0 ∧ h' = h_im (h_im (h_im (h_im (h_im (h_im (h_im (h_im (h_im (h_im (h_im (h_im (h_im (h_im h 1 37 1) 1 33 0) 1 34 (-1)) 1 35 0) 1 36 0) 1 34 0) 226 (0 : Int32).toNatClampNeg 0) 1 36 1) 226 (1 : Int32).toNatClampNeg (-1)) 1 36 2) 1 34 0) 1 33 1) 226 (2 : Int32).toNatClampNeg 2) 1 36 3)) := by
  refine Ct.of (fun _ _ _ => trivial) rfl (Nat.le_of_ble_eq_true rfl) ?_
  show AW (m_X12_fault (d + 9) 0 0) 0 0 0 [(0, .ref 1), (1, .int 1)] [] h (kI (fun r h' => (r = 0 ∧ h' = h_im (h_im (h_im (h_im (h_im (h_im (h_im (h_im (h_im (h_im (h_im (h_im (h_im (h_im h 1 37 1) 1 33 0) 1 34 (-1)) 1 35 0) 1 36 0) 1 34 0) 226 (0 : Int32).toNatClampNeg 0) 1 36 1) 226 (1 : Int32).toNatClampNeg (-1)) 1 36 2) 1 34 0) 1 33 1) 226 (2 : Int32).toNatClampNeg 2) 1 36 3)))
  refine aw_iload_n (i := 1) rfl d_X12_fault_0 1 rfl ?_
  refine aw_iconst (v := 0) d_X12_fault_1 ic_0 ?_
  refine aw_iconst (v := 2) d_X12_fault_2 ic_2 ?_
  refine aw_Si [.int 1, .int 0, .int 2] [] d_X12_fault_3 (cS_X12_in (d + 0) 0 0) tw_2147 rfl (rr0 (Nat.le_of_ble_eq_true rfl) (Nat.le_of_ble_eq_true rfl)) (Nat.le_of_ble_eq_true rfl) xs0 (s_X12_in _ _ 1 0 2) (fun _ _ kk => ?_)
  obtain ⟨e1, e2⟩ := kk
  rw [e1, e2]
  refine aw_vi (v2 := 1) (by decide) ?_
  refine aw_if_ne (tgt := 12) d_X12_fault_6 rfl (fun _ => ?_) (fun c => absurd c (by decide))
  refine aw_aload_n (i := 0) rfl d_X12_fault_12 0 rfl ?_
  refine aw_iload_n (i := 1) rfl d_X12_fault_13 1 rfl ?_
  refine aw_puti (k0 := 37) kc_12 (ws_1 w) (Nat.le_of_ble_eq_true rfl) tw_1779 d_X12_fault_14 rfl rfl nf_i ?_
  refine aw_aload_n (i := 0) rfl d_X12_fault_17 0 rfl ?_
  refine aw_iconst (v := 0) d_X12_fault_18 ic_0 ?_
  refine aw_puti (k0 := 33) kc_12 (ws_1 w) (Nat.le_of_ble_eq_true rfl) tw_1775 d_X12_fault_19 rfl rfl nf_i ?_
  refine aw_aload_n (i := 0) rfl d_X12_fault_22 0 rfl ?_
  refine aw_iconst (v := (-1)) d_X12_fault_23 ic_m1 ?_
  refine aw_puti (k0 := 34) kc_12 (ws_1 w) (Nat.le_of_ble_eq_true rfl) tw_1776 d_X12_fault_24 rfl rfl nf_i ?_
  refine aw_aload_n (i := 0) rfl d_X12_fault_27 0 rfl ?_
  refine aw_iconst (v := 0) d_X12_fault_28 ic_0 ?_
  refine aw_puti (k0 := 35) kc_12 (ws_1 w) (Nat.le_of_ble_eq_true rfl) tw_1777 d_X12_fault_29 rfl rfl nf_i ?_
  refine aw_aload_n (i := 0) rfl d_X12_fault_32 0 rfl ?_
  refine aw_iconst (v := 0) d_X12_fault_33 ic_0 ?_
  refine aw_puti (k0 := 36) kc_12 (ws_1 w) (Nat.le_of_ble_eq_true rfl) tw_1778 d_X12_fault_34 rfl rfl nf_i ?_
  refine aw_iload_n (i := 1) rfl d_X12_fault_37 1 rfl ?_
  refine aw_if_ne (tgt := 48) d_X12_fault_38 rfl (fun _ => ?_) (fun c => absurd c (by decide))
  refine aw_aload_n (i := 0) rfl d_X12_fault_48 0 rfl ?_
  refine aw_Vv 1 [] [] d_X12_fault_49 (cV_X12_clause (d + 8) 0 0) kc_12 (ws_1 w) tw_2233 rfl (rr0 (Nat.le_of_ble_eq_true rfl) (Nat.le_of_ble_eq_true rfl)) (Nat.le_of_ble_eq_true rfl) xs0 (f_X12_clause_146 d (h_im (h_im (h_im (h_im (h_im h 1 37 1) 1 33 0) 1 34 (-1)) 1 35 0) 1 36 0) w e_1_32 rfl rfl rfl rfl ) (fun h6 kk => ?_)
  have ez9 := kk
  obtain rfl := ez9.symm
  refine aw_aload_n (i := 0) rfl d_X12_fault_52 0 rfl ?_
  refine aw_geti (k0 := 34) kc_12 (ws_1 w) (Nat.le_of_ble_eq_true rfl) tw_1776 d_X12_fault_53 rfl ?_
  refine aw_vi (v2 := 0) rfl ?_
  refine aw_iconst (v := (-1)) d_X12_fault_56 ic_m1 ?_
  refine aw_icmp_ne (tgt := 86) d_X12_fault_57 rfl (fun _ => ?_) (fun c => absurd c (by decide))
  refine aw_aload_n (i := 0) rfl d_X12_fault_86 0 rfl ?_
  refine aw_geti (k0 := 34) kc_12 (ws_1 w) (Nat.le_of_ble_eq_true rfl) tw_1776 d_X12_fault_87 rfl ?_
  refine aw_vi (v2 := 0) rfl ?_
  refine aw_iconst (v := (-1)) d_X12_fault_90 ic_m1 ?_
  refine aw_icmp_ne (tgt := 106) d_X12_fault_91 rfl (fun _ => ?_) (fun c => absurd c (by decide))
  refine aw_aload_n (i := 0) rfl d_X12_fault_106 0 rfl ?_
  refine aw_geti (k0 := 34) kc_12 (ws_1 w) (Nat.le_of_ble_eq_true rfl) tw_1776 d_X12_fault_107 rfl ?_
  refine aw_vi (v2 := 0) rfl ?_
  exact aw_iret rfl d_X12_fault_110 ⟨Nat.le_refl _, Nat.le_refl _⟩ ⟨_, rfl, ⟨rfl, rfl⟩⟩
theorem f_X12_text_148 (d : Nat) (h : Hp_) (w : Wf h) (e_1_32 : h_i h 1 32 = 0) (e_235_0 : h_i h 235 0 = 0)  (x2 : Int32) : Ci (m_X12_text (d + 10) 0 0) [.ref 1, .int 0, .int x2] h (fun r h' => (¬ (0 ≤ x2 ∧ x2 ≤ 30) ∧ r = (-1) ∧ h' = h) ∨ ((0 ≤ x2 ∧ x2 ≤ 30) ∧ r = (-1) ∧ h' = h_im (h_im (h_im (h_im (h_im (h_im (h_im (h_im (h_im (h_im (h_im (h_im (h_im (h_im h 1 37 1) 1 33 0) 1 34 (-1)) 1 35 0) 1 36 0) 1 34 0) 226 (0 : Int32).toNatClampNeg 0) 1 36 1) 226 (1 : Int32).toNatClampNeg (-1)) 1 36 2) 1 34 0) 1 33 1) 226 (2 : Int32).toNatClampNeg 2) 1 36 3)) := by
  refine Ct.of (fun _ _ _ => trivial) rfl (Nat.le_of_ble_eq_true rfl) ?_
  show AW (m_X12_text (d + 10) 0 0) 0 0 0 [(0, .ref 1), (1, .int 0), (2, .int x2)] [] h (kI (fun r h' => (¬ (0 ≤ x2 ∧ x2 ≤ 30) ∧ r = (-1) ∧ h' = h) ∨ ((0 ≤ x2 ∧ x2 ≤ 30) ∧ r = (-1) ∧ h' = h_im (h_im (h_im (h_im (h_im (h_im (h_im (h_im (h_im (h_im (h_im (h_im (h_im (h_im h 1 37 1) 1 33 0) 1 34 (-1)) 1 35 0) 1 36 0) 1 34 0) 226 (0 : Int32).toNatClampNeg 0) 1 36 1) 226 (1 : Int32).toNatClampNeg (-1)) 1 36 2) 1 34 0) 1 33 1) 226 (2 : Int32).toNatClampNeg 2) 1 36 3)))
  refine aw_iload_n (i := 2) rfl d_X12_text_0 2 rfl ?_
  refine aw_iconst (v := 0) d_X12_text_1 ic_0 ?_
  refine aw_bipush (v := 30) d_X12_text_2 ib_30 ?_
  refine aw_Si [.int x2, .int 0, .int 30] [] d_X12_text_4 (cS_X12_in (d + 0) 0 0) tw_2147 rfl (rr0 (Nat.le_of_ble_eq_true rfl) (Nat.le_of_ble_eq_true rfl)) (Nat.le_of_ble_eq_true rfl) xs0 (s_X12_in _ _ x2 0 30) (fun _ _ kk => ?_)
  obtain ⟨e1, e2⟩ := kk
  rw [e1, e2]
  refine aw_ifb_eq (tgt := 32) d_X12_text_7 rfl (fun c3 => ?_) (fun c3 => ?_)
  · refine aw_iconst (v := (-1)) d_X12_text_32 ic_m1 ?_
    exact aw_iret rfl d_X12_text_33 ⟨Nat.le_refl _, Nat.le_refl _⟩ ⟨_, rfl, (Or.inl ⟨c3, rfl, rfl⟩)⟩
  · refine aw_aload_n (i := 0) rfl d_X12_text_10 0 rfl ?_
    refine aw_getr (k0 := 49) kc_12 (ws_1 w) (Nat.le_of_ble_eq_true rfl) tw_1791 d_X12_text_11 rfl (wr_1_49 w) ?_
    refine aw_iload_n (i := 1) rfl d_X12_text_14 1 rfl ?_
    refine aw_iald (ws_235 w) (vin_c (by decide)) d_X12_text_15 ?_
    refine aw_vi (v2 := 0) e_235_0 ?_
    refine aw_bipush (v := 20) d_X12_text_16 ib_20 ?_
    refine aw_icmp_eq (tgt := 32) d_X12_text_18 rfl (fun c => absurd c (by decide)) (fun _ => ?_)
    refine aw_aload_n (i := 0) rfl d_X12_text_21 0 rfl ?_
    refine aw_iload_n (i := 1) rfl d_X12_text_22 1 rfl ?_
    refine aw_iconst (v := 1) d_X12_text_23 ic_1 ?_
    refine aw_iadd d_X12_text_24 ?_
    refine aw_vi (v2 := 1) (by decide) ?_
    refine aw_Vi 1 [.int 1] [] d_X12_text_25 (cV_X12_fault (d + 9) 0 0) kc_12 (ws_1 w) tw_2198 rfl (rr0 (Nat.le_of_ble_eq_true rfl) (Nat.le_of_ble_eq_true rfl)) (Nat.le_of_ble_eq_true rfl) xs0 (f_X12_fault_147 d h w e_1_32 ) (fun r5 h6 kk => ?_)
    obtain ⟨ez8, ez9⟩ := kk
    obtain rfl := ez8.symm
    obtain rfl := ez9.symm
    refine aw_iconst (v := (-1)) d_X12_text_28 ic_m1 ?_
    refine aw_icmp_eq (tgt := 34) d_X12_text_29 rfl (fun c => absurd c (by decide)) (fun _ => ?_)
    refine aw_iconst (v := (-1)) d_X12_text_32 ic_m1 ?_
    exact aw_iret rfl d_X12_text_33 ⟨Nat.le_refl _, Nat.le_refl _⟩ ⟨_, rfl, (Or.inr ⟨c3, rfl, rfl⟩)⟩
theorem f_X12_act (d : Nat) (h : Hp_) (w : Wf h) (e_1_32 : h_i h 1 32 = 0) (e_235_0 : h_i h 235 0 = 0)  (x1 : Int32) : Ci (m_X12_act (d + 11) 0 0) [.ref 1, .int x1] h (fun r h' => (¬ (0 ≤ x1 ∧ x1 ≤ 30) ∧ r = (-1) ∧ h' = h) ∨ ((0 ≤ x1 ∧ x1 ≤ 30) ∧ r = (-1) ∧ h' = h_im (h_im (h_im (h_im (h_im (h_im (h_im (h_im (h_im (h_im (h_im (h_im (h_im (h_im h 1 37 1) 1 33 0) 1 34 (-1)) 1 35 0) 1 36 0) 1 34 0) 226 (0 : Int32).toNatClampNeg 0) 1 36 1) 226 (1 : Int32).toNatClampNeg (-1)) 1 36 2) 1 34 0) 1 33 1) 226 (2 : Int32).toNatClampNeg 2) 1 36 3)) := by
  refine Ct.of (fun _ _ _ => trivial) rfl (Nat.le_of_ble_eq_true rfl) ?_
  show AW (m_X12_act (d + 11) 0 0) 0 0 0 [(0, .ref 1), (1, .int x1)] [] h (kI (fun r h' => (¬ (0 ≤ x1 ∧ x1 ≤ 30) ∧ r = (-1) ∧ h' = h) ∨ ((0 ≤ x1 ∧ x1 ≤ 30) ∧ r = (-1) ∧ h' = h_im (h_im (h_im (h_im (h_im (h_im (h_im (h_im (h_im (h_im (h_im (h_im (h_im (h_im h 1 37 1) 1 33 0) 1 34 (-1)) 1 35 0) 1 36 0) 1 34 0) 226 (0 : Int32).toNatClampNeg 0) 1 36 1) 226 (1 : Int32).toNatClampNeg (-1)) 1 36 2) 1 34 0) 1 33 1) 226 (2 : Int32).toNatClampNeg 2) 1 36 3)))
  refine aw_aload_n (i := 0) rfl d_X12_act_0 0 rfl ?_
  refine aw_iconst (v := 0) d_X12_act_1 ic_0 ?_
  refine aw_iload_n (i := 1) rfl d_X12_act_2 1 rfl ?_
  refine aw_Vi 1 [.int 0, .int x1] [] d_X12_act_3 (cV_X12_text (d + 10) 0 0) kc_12 (ws_1 w) tw_2300 rfl (rr0 (Nat.le_of_ble_eq_true rfl) (Nat.le_of_ble_eq_true rfl)) (Nat.le_of_ble_eq_true rfl) xs0 (f_X12_text_148 d h w e_1_32 e_235_0 x1) (fun r1 h2 kk => ?_)
  rcases kk with ⟨c3, ez8, ez9⟩ | ⟨c4, ez8, ez9⟩
  · obtain rfl := ez8.symm
    obtain rfl := ez9.symm
    exact aw_iret rfl d_X12_act_6 ⟨Nat.le_refl _, Nat.le_refl _⟩ ⟨_, rfl, (Or.inl ⟨c3, rfl, rfl⟩)⟩
  · obtain rfl := ez8.symm
    obtain rfl := ez9.symm
    exact aw_iret rfl d_X12_act_6 ⟨Nat.le_refl _, Nat.le_refl _⟩ ⟨_, rfl, (Or.inr ⟨c4, rfl, rfl⟩)⟩
theorem f_X12_forceOf_150 (d : Nat) (h : Hp_) (w : Wf h) (e_235_0 : h_i h 235 0 = 0)  (x2 : Int32) (x3 : Int32) : Ci (m_X12_forceOf (d + 0) 0 0) [.ref 1, .int 0, .int x2, .int x3] h (fun r h' => (r = (-1) ∧ h' = h)) := by
  refine Ct.of (fun _ _ _ => trivial) rfl (Nat.le_of_ble_eq_true rfl) ?_
  show AW (m_X12_forceOf (d + 0) 0 0) 0 0 0 [(0, .ref 1), (1, .int 0), (2, .int x2), (3, .int x3)] [] h (kI (fun r h' => (r = (-1) ∧ h' = h)))
  refine aw_iconst (v := (-1)) d_X12_forceOf_0 ic_m1 ?_
  refine aw_istore [(0, .ref 1), (1, .int 0), (2, .int x2), (3, .int x3), (4, .int (-1))] d_X12_forceOf_1 (Nat.le_of_ble_eq_true rfl) rfl rfl ?_
  refine aw_iconst (v := 0) d_X12_forceOf_3 ic_0 ?_
  refine aw_istore [(0, .ref 1), (1, .int 0), (2, .int x2), (3, .int x3), (4, .int (-1)), (5, .int 0)] d_X12_forceOf_4 (Nat.le_of_ble_eq_true rfl) rfl rfl ?_
  refine aw_iload d_X12_forceOf_6 5 rfl ?_
  refine aw_aload_n (i := 0) rfl d_X12_forceOf_8 0 rfl ?_
  refine aw_getr (k0 := 49) kc_12 (ws_1 w) (Nat.le_of_ble_eq_true rfl) tw_1791 d_X12_forceOf_9 rfl (wr_1_49 w) ?_
  refine aw_iload_n (i := 1) rfl d_X12_forceOf_12 1 rfl ?_
  refine aw_iald (ws_235 w) (vin_c (by decide)) d_X12_forceOf_13 ?_
  refine aw_vi (v2 := 0) e_235_0 ?_
  refine aw_icmp_ge (tgt := 86) d_X12_forceOf_14 rfl (fun _ => ?_) (fun c => absurd c (by decide))
  refine aw_iload d_X12_forceOf_86 4 rfl ?_
  exact aw_iret rfl d_X12_forceOf_88 ⟨Nat.le_refl _, Nat.le_refl _⟩ ⟨_, rfl, ⟨rfl, rfl⟩⟩
theorem f_X12_force (d : Nat) (h : Hp_) (w : Wf h) (e_1_0 : h_i h 1 0 = 0) (e_235_0 : h_i h 235 0 = 0)  (x1 : Int32) (x2 : Int32) : Ci (m_X12_force (d + 2) 0 0) [.ref 1, .int x1, .int x2] h (fun r h' => (¬ (0 ≤ x1 ∧ x1 ≤ 30) ∧ r = (-1) ∧ h' = h) ∨ ((0 ≤ x1 ∧ x1 ≤ 30) ∧ ¬ (0 ≤ x2 ∧ x2 ≤ 0) ∧ r = (-1) ∧ h' = h) ∨ ((0 ≤ x1 ∧ x1 ≤ 30) ∧ (0 ≤ x2 ∧ x2 ≤ 0) ∧ r = (-1) ∧ h' = h)) := by
  refine Ct.of (fun _ _ _ => trivial) rfl (Nat.le_of_ble_eq_true rfl) ?_
  show AW (m_X12_force (d + 2) 0 0) 0 0 0 [(0, .ref 1), (1, .int x1), (2, .int x2)] [] h (kI (fun r h' => (¬ (0 ≤ x1 ∧ x1 ≤ 30) ∧ r = (-1) ∧ h' = h) ∨ ((0 ≤ x1 ∧ x1 ≤ 30) ∧ ¬ (0 ≤ x2 ∧ x2 ≤ 0) ∧ r = (-1) ∧ h' = h) ∨ ((0 ≤ x1 ∧ x1 ≤ 30) ∧ (0 ≤ x2 ∧ x2 ≤ 0) ∧ r = (-1) ∧ h' = h)))
  refine aw_iload_n (i := 1) rfl d_X12_force_0 1 rfl ?_
  refine aw_iconst (v := 0) d_X12_force_1 ic_0 ?_
  refine aw_bipush (v := 30) d_X12_force_2 ib_30 ?_
  refine aw_Si [.int x1, .int 0, .int 30] [] d_X12_force_4 (cS_X12_in (d + 0) 0 0) tw_2147 rfl (rr0 (Nat.le_of_ble_eq_true rfl) (Nat.le_of_ble_eq_true rfl)) (Nat.le_of_ble_eq_true rfl) xs0 (s_X12_in _ _ x1 0 30) (fun _ _ kk => ?_)
  obtain ⟨e1, e2⟩ := kk
  rw [e1, e2]
  refine aw_ifb_eq (tgt := 28) d_X12_force_7 rfl (fun c3 => ?_) (fun c3 => ?_)
  · refine aw_iconst (v := (-1)) d_X12_force_28 ic_m1 ?_
    exact aw_iret rfl d_X12_force_29 ⟨Nat.le_refl _, Nat.le_refl _⟩ ⟨_, rfl, (Or.inl ⟨c3, rfl, rfl⟩)⟩
  · refine aw_aload_n (i := 0) rfl d_X12_force_10 0 rfl ?_
    refine aw_iload_n (i := 2) rfl d_X12_force_11 2 rfl ?_
    refine aw_Vi 1 [.int x2] [] d_X12_force_12 (cV_X12_isKnowing (d + 1) 0 0) kc_12 (ws_1 w) tw_2175 rfl (rr0 (Nat.le_of_ble_eq_true rfl) (Nat.le_of_ble_eq_true rfl)) (Nat.le_of_ble_eq_true rfl) xs0 (f_X12_isKnowing_127 d h w e_1_0 x2) (fun r4 h5 kk => ?_)
    obtain ⟨ez8, ez9⟩ := kk
    obtain rfl := ez8.symm
    obtain rfl := ez9.symm
    refine aw_ifb_eq (tgt := 28) d_X12_force_15 rfl (fun c6 => ?_) (fun c6 => ?_)
    · refine aw_iconst (v := (-1)) d_X12_force_28 ic_m1 ?_
      exact aw_iret rfl d_X12_force_29 ⟨Nat.le_refl _, Nat.le_refl _⟩ ⟨_, rfl, (Or.inr (Or.inl ⟨c3, c6, rfl, rfl⟩))⟩
    · refine aw_aload_n (i := 0) rfl d_X12_force_18 0 rfl ?_
      refine aw_iconst (v := 0) d_X12_force_19 ic_0 ?_
      refine aw_iload_n (i := 1) rfl d_X12_force_20 1 rfl ?_
      refine aw_iload_n (i := 2) rfl d_X12_force_21 2 rfl ?_
      refine aw_Vi 1 [.int 0, .int x1, .int x2] [] d_X12_force_22 (cV_X12_forceOf (d + 0) 0 0) kc_12 (ws_1 w) tw_2312 rfl (rr0 (Nat.le_of_ble_eq_true rfl) (Nat.le_of_ble_eq_true rfl)) (Nat.le_of_ble_eq_true rfl) xs0 (f_X12_forceOf_150 d h w e_235_0 x1 x2) (fun r7 h8 kk => ?_)
      obtain ⟨ez8, ez9⟩ := kk
      obtain rfl := ez8.symm
      obtain rfl := ez9.symm
      refine aw_goto (tgt := 29) d_X12_force_25 rfl ?_
      exact aw_iret rfl d_X12_force_29 ⟨Nat.le_refl _, Nat.le_refl _⟩ ⟨_, rfl, (Or.inr (Or.inr ⟨c3, c6, rfl, rfl⟩))⟩
theorem f_X12_sighting (d : Nat) (h : Hp_) (w : Wf h) (e_1_80 : h_i h 1 80 = 0)  (x1 : Int32) (x2 : Int32) : Ci (m_X12_sighting (d + 1) 0 0) [.ref 1, .int x1, .int x2] h (fun r h' => (r = (-1) ∧ h' = h)) := by
  refine Ct.of (fun _ _ _ => trivial) rfl (Nat.le_of_ble_eq_true rfl) ?_
  show AW (m_X12_sighting (d + 1) 0 0) 0 0 0 [(0, .ref 1), (1, .int x1), (2, .int x2)] [] h (kI (fun r h' => (r = (-1) ∧ h' = h)))
  refine aw_iload_n (i := 1) rfl d_X12_sighting_0 1 rfl ?_
  refine aw_iconst (v := 0) d_X12_sighting_1 ic_0 ?_
  refine aw_aload_n (i := 0) rfl d_X12_sighting_2 0 rfl ?_
  refine aw_geti (k0 := 80) kc_12 (ws_1 w) (Nat.le_of_ble_eq_true rfl) tw_1822 d_X12_sighting_3 rfl ?_
  refine aw_vi (v2 := 0) e_1_80 ?_
  refine aw_iconst (v := 1) d_X12_sighting_6 ic_1 ?_
  refine aw_isub d_X12_sighting_7 ?_
  refine aw_vi (v2 := (-1)) (by decide) ?_
  refine aw_Si [.int x1, .int 0, .int (-1)] [] d_X12_sighting_8 (cS_X12_in (d + 0) 0 0) tw_2147 rfl (rr0 (Nat.le_of_ble_eq_true rfl) (Nat.le_of_ble_eq_true rfl)) (Nat.le_of_ble_eq_true rfl) xs0 (s_X12_in _ _ x1 0 (-1)) (fun _ _ kk => ?_)
  obtain ⟨e1, e2⟩ := kk
  rw [e1, e2]
  have c3 : ¬ (0 ≤ x1 ∧ x1 ≤ (-1)) := (by intro c3; grind)
  refine aw_vi (v2 := 0) (bI_0.mpr c3) ?_
  refine aw_if_ne (tgt := 16) d_X12_sighting_11 rfl (fun c => absurd c (by decide)) (fun _ => ?_)
  refine aw_iconst (v := (-1)) d_X12_sighting_14 ic_m1 ?_
  exact aw_iret rfl d_X12_sighting_15 ⟨Nat.le_refl _, Nat.le_refl _⟩ ⟨_, rfl, ⟨rfl, rfl⟩⟩
theorem f_X12_should (d : Nat) (h : Hp_) (w : Wf h) (e_1_80 : h_i h 1 80 = 0)  (x1 : Int32) (x2 : Int32) : Ci (m_X12_should (d + 1) 0 0) [.ref 1, .int x1, .int x2] h (fun r h' => (r = (-1) ∧ h' = h)) := by
  refine Ct.of (fun _ _ _ => trivial) rfl (Nat.le_of_ble_eq_true rfl) ?_
  show AW (m_X12_should (d + 1) 0 0) 0 0 0 [(0, .ref 1), (1, .int x1), (2, .int x2)] [] h (kI (fun r h' => (r = (-1) ∧ h' = h)))
  refine aw_iload_n (i := 1) rfl d_X12_should_0 1 rfl ?_
  refine aw_iconst (v := 0) d_X12_should_1 ic_0 ?_
  refine aw_aload_n (i := 0) rfl d_X12_should_2 0 rfl ?_
  refine aw_geti (k0 := 80) kc_12 (ws_1 w) (Nat.le_of_ble_eq_true rfl) tw_1822 d_X12_should_3 rfl ?_
  refine aw_vi (v2 := 0) e_1_80 ?_
  refine aw_iconst (v := 1) d_X12_should_6 ic_1 ?_
  refine aw_isub d_X12_should_7 ?_
  refine aw_vi (v2 := (-1)) (by decide) ?_
  refine aw_Si [.int x1, .int 0, .int (-1)] [] d_X12_should_8 (cS_X12_in (d + 0) 0 0) tw_2147 rfl (rr0 (Nat.le_of_ble_eq_true rfl) (Nat.le_of_ble_eq_true rfl)) (Nat.le_of_ble_eq_true rfl) xs0 (s_X12_in _ _ x1 0 (-1)) (fun _ _ kk => ?_)
  obtain ⟨e1, e2⟩ := kk
  rw [e1, e2]
  have c3 : ¬ (0 ≤ x1 ∧ x1 ≤ (-1)) := (by intro c3; grind)
  refine aw_vi (v2 := 0) (bI_0.mpr c3) ?_
  refine aw_if_eq (tgt := 40) d_X12_should_11 rfl (fun _ => ?_) (fun c => absurd c (by decide))
  refine aw_iconst (v := (-1)) d_X12_should_40 ic_m1 ?_
  exact aw_iret rfl d_X12_should_41 ⟨Nat.le_refl _, Nat.le_refl _⟩ ⟨_, rfl, ⟨rfl, rfl⟩⟩
theorem f_X12_heard (d : Nat) (h : Hp_) (w : Wf h) (e_1_0 : h_i h 1 0 = 0) (e_1_80 : h_i h 1 80 = 0)  (x1 : Int32) : Ci (m_X12_heard (d + 2) 0 0) [.ref 1, .int x1] h (fun r h' => ((0 ≤ x1 ∧ x1 ≤ 0) ∧ r = 0 ∧ h' = h) ∨ (¬ (0 ≤ x1 ∧ x1 ≤ 0) ∧ r = (-1) ∧ h' = h)) := by
  refine Ct.of (fun _ _ _ => trivial) rfl (Nat.le_of_ble_eq_true rfl) ?_
  show AW (m_X12_heard (d + 2) 0 0) 0 0 0 [(0, .ref 1), (1, .int x1)] [] h (kI (fun r h' => ((0 ≤ x1 ∧ x1 ≤ 0) ∧ r = 0 ∧ h' = h) ∨ (¬ (0 ≤ x1 ∧ x1 ≤ 0) ∧ r = (-1) ∧ h' = h)))
  refine aw_aload_n (i := 0) rfl d_X12_heard_0 0 rfl ?_
  refine aw_iload_n (i := 1) rfl d_X12_heard_1 1 rfl ?_
  refine aw_Vi 1 [.int x1] [] d_X12_heard_2 (cV_X12_isKnowing (d + 1) 0 0) kc_12 (ws_1 w) tw_2175 rfl (rr0 (Nat.le_of_ble_eq_true rfl) (Nat.le_of_ble_eq_true rfl)) (Nat.le_of_ble_eq_true rfl) xs0 (f_X12_isKnowing_127 d h w e_1_0 x1) (fun r1 h2 kk => ?_)
  obtain ⟨ez8, ez9⟩ := kk
  obtain rfl := ez8.symm
  obtain rfl := ez9.symm
  refine aw_ifb_ne (tgt := 10) d_X12_heard_5 rfl (fun c3 => ?_) (fun c3 => ?_)
  · refine aw_iconst (v := 0) d_X12_heard_10 ic_0 ?_
    refine aw_istore_n (i := 2) rfl [(0, .ref 1), (1, .int x1), (2, .int 0)] d_X12_heard_11 (Nat.le_of_ble_eq_true rfl) rfl rfl ?_
    refine aw_iconst (v := 0) d_X12_heard_12 ic_0 ?_
    refine aw_istore_n (i := 3) rfl [(0, .ref 1), (1, .int x1), (2, .int 0), (3, .int 0)] d_X12_heard_13 (Nat.le_of_ble_eq_true rfl) rfl rfl ?_
    refine aw_iload_n (i := 3) rfl d_X12_heard_14 3 rfl ?_
    refine aw_aload_n (i := 0) rfl d_X12_heard_15 0 rfl ?_
    refine aw_geti (k0 := 80) kc_12 (ws_1 w) (Nat.le_of_ble_eq_true rfl) tw_1822 d_X12_heard_16 rfl ?_
    refine aw_vi (v2 := 0) e_1_80 ?_
    refine aw_icmp_ge (tgt := 56) d_X12_heard_19 rfl (fun _ => ?_) (fun c => absurd c (by decide))
    refine aw_iload_n (i := 2) rfl d_X12_heard_56 2 rfl ?_
    exact aw_iret rfl d_X12_heard_57 ⟨Nat.le_refl _, Nat.le_refl _⟩ ⟨_, rfl, (Or.inl ⟨c3, rfl, rfl⟩)⟩
  · refine aw_iconst (v := (-1)) d_X12_heard_8 ic_m1 ?_
    exact aw_iret rfl d_X12_heard_9 ⟨Nat.le_refl _, Nat.le_refl _⟩ ⟨_, rfl, (Or.inr ⟨c3, rfl, rfl⟩)⟩
theorem f_X12_opened_155 (d : Nat) (h : Hp_) (w : Wf h) (e_1_0 : h_i h 1 0 = 0) (e_1_96 : h_i h 1 96 = 0)  (x1 : Int32) : Ci (m_X12_opened (d + 0) 0 0) [.ref 1, .int x1] h (fun r h' => (r = 0 ∧ h' = h_im (h_im (h_im h 262 (0 : Int32).toNatClampNeg x1) 263 (0 : Int32).toNatClampNeg 0) 1 96 1)) := by
  refine Ct.of (fun _ _ _ => trivial) rfl (Nat.le_of_ble_eq_true rfl) ?_
  show AW (m_X12_opened (d + 0) 0 0) 0 0 0 [(0, .ref 1), (1, .int x1)] [] h (kI (fun r h' => (r = 0 ∧ h' = h_im (h_im (h_im h 262 (0 : Int32).toNatClampNeg x1) 263 (0 : Int32).toNatClampNeg 0) 1 96 1)))
  refine aw_aload_n (i := 0) rfl d_X12_opened_0 0 rfl ?_
  refine aw_getr (k0 := 81) kc_12 (ws_1 w) (Nat.le_of_ble_eq_true rfl) tw_1823 d_X12_opened_1 rfl (wr_1_81 w) ?_
  refine aw_aload_n (i := 0) rfl d_X12_opened_4 0 rfl ?_
  refine aw_geti (k0 := 96) kc_12 (ws_1 w) (Nat.le_of_ble_eq_true rfl) tw_1838 d_X12_opened_5 rfl ?_
  refine aw_vi (v2 := 0) e_1_96 ?_
  refine aw_iload_n (i := 1) rfl d_X12_opened_8 1 rfl ?_
  refine aw_iast (ws_262 w) (vin_c (by decide)) d_X12_opened_9 ?_
  refine aw_aload_n (i := 0) rfl d_X12_opened_10 0 rfl ?_
  refine aw_getr (k0 := 82) kc_12 (ws_1 w) (Nat.le_of_ble_eq_true rfl) tw_1824 d_X12_opened_11 rfl (wr_1_82 w) ?_
  refine aw_aload_n (i := 0) rfl d_X12_opened_14 0 rfl ?_
  refine aw_geti (k0 := 96) kc_12 (ws_1 w) (Nat.le_of_ble_eq_true rfl) tw_1838 d_X12_opened_15 rfl ?_
  refine aw_vi (v2 := 0) e_1_96 ?_
  refine aw_aload_n (i := 0) rfl d_X12_opened_18 0 rfl ?_
  refine aw_geti (k0 := 0) kc_12 (ws_1 w) (Nat.le_of_ble_eq_true rfl) tw_1742 d_X12_opened_19 rfl ?_
  refine aw_vi (v2 := 0) e_1_0 ?_
  refine aw_iast (ws_263 w) (vin_c (by decide)) d_X12_opened_22 ?_
  refine aw_aload_n (i := 0) rfl d_X12_opened_23 0 rfl ?_
  refine aw_dup d_X12_opened_24 rfl ?_
  refine aw_geti (k0 := 96) kc_12 (ws_1 w) (Nat.le_of_ble_eq_true rfl) tw_1838 d_X12_opened_25 rfl ?_
  refine aw_vi (v2 := 0) e_1_96 ?_
  refine aw_iconst (v := 1) d_X12_opened_28 ic_1 ?_
  refine aw_iadd d_X12_opened_29 ?_
  refine aw_vi (v2 := 1) (by decide) ?_
  refine aw_puti (k0 := 96) kc_12 (ws_1 w) (Nat.le_of_ble_eq_true rfl) tw_1838 d_X12_opened_30 rfl rfl nf_i ?_
  refine aw_aload_n (i := 0) rfl d_X12_opened_33 0 rfl ?_
  refine aw_geti (k0 := 96) kc_12 (ws_1 w) (Nat.le_of_ble_eq_true rfl) tw_1838 d_X12_opened_34 rfl ?_
  refine aw_vi (v2 := 1) rfl ?_
  refine aw_iconst (v := 1) d_X12_opened_37 ic_1 ?_
  refine aw_isub d_X12_opened_38 ?_
  refine aw_vi (v2 := 0) (by decide) ?_
  exact aw_iret rfl d_X12_opened_39 ⟨Nat.le_refl _, Nat.le_refl _⟩ ⟨_, rfl, ⟨rfl, rfl⟩⟩
theorem f_X12_open (d : Nat) (h : Hp_) (w : Wf h) (e_1_0 : h_i h 1 0 = 0) (e_1_96 : h_i h 1 96 = 0)  (x1 : Int32) : Ci (m_X12_open (d + 1) 0 0) [.ref 1, .int x1] h (fun r h' => (¬ (0 ≤ x1 ∧ x1 ≤ 9) ∧ r = (-1) ∧ h' = h) ∨ ((0 ≤ x1 ∧ x1 ≤ 9) ∧ r = 0 ∧ h' = h_im (h_im (h_im h 262 (0 : Int32).toNatClampNeg x1) 263 (0 : Int32).toNatClampNeg 0) 1 96 1)) := by
  refine Ct.of (fun _ _ _ => trivial) rfl (Nat.le_of_ble_eq_true rfl) ?_
  show AW (m_X12_open (d + 1) 0 0) 0 0 0 [(0, .ref 1), (1, .int x1)] [] h (kI (fun r h' => (¬ (0 ≤ x1 ∧ x1 ≤ 9) ∧ r = (-1) ∧ h' = h) ∨ ((0 ≤ x1 ∧ x1 ≤ 9) ∧ r = 0 ∧ h' = h_im (h_im (h_im h 262 (0 : Int32).toNatClampNeg x1) 263 (0 : Int32).toNatClampNeg 0) 1 96 1)))
  refine aw_iload_n (i := 1) rfl d_X12_open_0 1 rfl ?_
  refine aw_iconst (v := 0) d_X12_open_1 ic_0 ?_
  refine aw_bipush (v := 9) d_X12_open_2 ib_9 ?_
  refine aw_Si [.int x1, .int 0, .int 9] [] d_X12_open_4 (cS_X12_in (d + 0) 0 0) tw_2147 rfl (rr0 (Nat.le_of_ble_eq_true rfl) (Nat.le_of_ble_eq_true rfl)) (Nat.le_of_ble_eq_true rfl) xs0 (s_X12_in _ _ x1 0 9) (fun _ _ kk => ?_)
  obtain ⟨e1, e2⟩ := kk
  rw [e1, e2]
  refine aw_ifb_eq (tgt := 27) d_X12_open_7 rfl (fun c3 => ?_) (fun c3 => ?_)
  · refine aw_iconst (v := (-1)) d_X12_open_27 ic_m1 ?_
    exact aw_iret rfl d_X12_open_28 ⟨Nat.le_refl _, Nat.le_refl _⟩ ⟨_, rfl, (Or.inl ⟨c3, rfl, rfl⟩)⟩
  · refine aw_aload_n (i := 0) rfl d_X12_open_10 0 rfl ?_
    refine aw_geti (k0 := 96) kc_12 (ws_1 w) (Nat.le_of_ble_eq_true rfl) tw_1838 d_X12_open_11 rfl ?_
    refine aw_vi (v2 := 0) e_1_96 ?_
    refine aw_bipush (v := 30) d_X12_open_14 ib_30 ?_
    refine aw_icmp_ge (tgt := 27) d_X12_open_16 rfl (fun c => absurd c (by decide)) (fun _ => ?_)
    refine aw_aload_n (i := 0) rfl d_X12_open_19 0 rfl ?_
    refine aw_iload_n (i := 1) rfl d_X12_open_20 1 rfl ?_
    refine aw_Vi 1 [.int x1] [] d_X12_open_21 (cV_X12_opened (d + 0) 0 0) kc_12 (ws_1 w) tw_2450 rfl (rr0 (Nat.le_of_ble_eq_true rfl) (Nat.le_of_ble_eq_true rfl)) (Nat.le_of_ble_eq_true rfl) xs0 (f_X12_opened_155 d h w e_1_0 e_1_96 x1) (fun r5 h6 kk => ?_)
    obtain ⟨ez8, ez9⟩ := kk
    obtain rfl := ez8.symm
    obtain rfl := ez9.symm
    refine aw_goto (tgt := 28) d_X12_open_24 rfl ?_
    exact aw_iret rfl d_X12_open_28 ⟨Nat.le_refl _, Nat.le_refl _⟩ ⟨_, rfl, (Or.inr ⟨c3, rfl, rfl⟩)⟩
theorem f_X12_need (d : Nat) (h : Hp_) (w : Wf h)   (x1 : Int32) (x2 : Int32) : Ci (m_X12_need (d + 1) 0 0) [.ref 1, .int x1, .int x2] h (fun r h' => (¬ (0 ≤ x1 ∧ x1 ≤ 9) ∧ r = 0 ∧ h' = h) ∨ ((0 ≤ x1 ∧ x1 ≤ 9) ∧ (0 ≤ x2 ∧ x2 ≤ 255) ∧ r = 1 ∧ h' = h_im h 264 x1.toNatClampNeg x2) ∨ ((0 ≤ x1 ∧ x1 ≤ 9) ∧ ¬ (0 ≤ x2 ∧ x2 ≤ 255) ∧ r = 0 ∧ h' = h)) := by
  refine Ct.of (fun _ _ _ => trivial) rfl (Nat.le_of_ble_eq_true rfl) ?_
  show AW (m_X12_need (d + 1) 0 0) 0 0 0 [(0, .ref 1), (1, .int x1), (2, .int x2)] [] h (kI (fun r h' => (¬ (0 ≤ x1 ∧ x1 ≤ 9) ∧ r = 0 ∧ h' = h) ∨ ((0 ≤ x1 ∧ x1 ≤ 9) ∧ (0 ≤ x2 ∧ x2 ≤ 255) ∧ r = 1 ∧ h' = h_im h 264 x1.toNatClampNeg x2) ∨ ((0 ≤ x1 ∧ x1 ≤ 9) ∧ ¬ (0 ≤ x2 ∧ x2 ≤ 255) ∧ r = 0 ∧ h' = h)))
  refine aw_iload_n (i := 1) rfl d_X12_need_0 1 rfl ?_
  refine aw_iconst (v := 0) d_X12_need_1 ic_0 ?_
  refine aw_bipush (v := 9) d_X12_need_2 ib_9 ?_
  refine aw_Si [.int x1, .int 0, .int 9] [] d_X12_need_4 (cS_X12_in (d + 0) 0 0) tw_2147 rfl (rr0 (Nat.le_of_ble_eq_true rfl) (Nat.le_of_ble_eq_true rfl)) (Nat.le_of_ble_eq_true rfl) xs0 (s_X12_in _ _ x1 0 9) (fun _ _ kk => ?_)
  obtain ⟨e1, e2⟩ := kk
  rw [e1, e2]
  refine aw_ifb_eq (tgt := 21) d_X12_need_7 rfl (fun c3 => ?_) (fun c3 => ?_)
  · refine aw_iconst (v := 0) d_X12_need_21 ic_0 ?_
    exact aw_zret rfl rfl d_X12_need_22 ⟨Nat.le_refl _, Nat.le_refl _⟩ ⟨_, rfl, (Or.inl ⟨c3, rfl, rfl⟩)⟩
  · refine aw_iload_n (i := 2) rfl d_X12_need_10 2 rfl ?_
    refine aw_iconst (v := 0) d_X12_need_11 ic_0 ?_
    refine aw_sipush (v := 255) d_X12_need_12 is_255 ?_
    refine aw_Si [.int x2, .int 0, .int 255] [] d_X12_need_15 (cS_X12_in (d + 0) 0 0) tw_2147 rfl (rr0 (Nat.le_of_ble_eq_true rfl) (Nat.le_of_ble_eq_true rfl)) (Nat.le_of_ble_eq_true rfl) xs0 (s_X12_in _ _ x2 0 255) (fun _ _ kk => ?_)
    obtain ⟨e4, e5⟩ := kk
    rw [e4, e5]
    refine aw_ifb_ne (tgt := 23) d_X12_need_18 rfl (fun c6 => ?_) (fun c6 => ?_)
    · refine aw_aload_n (i := 0) rfl d_X12_need_23 0 rfl ?_
      refine aw_getr (k0 := 83) kc_12 (ws_1 w) (Nat.le_of_ble_eq_true rfl) tw_1825 d_X12_need_24 rfl (wr_1_83 w) ?_
      refine aw_iload_n (i := 1) rfl d_X12_need_27 1 rfl ?_
      refine aw_iload_n (i := 2) rfl d_X12_need_28 2 rfl ?_
      refine aw_iast (ws_264 w) (vin_of c3 (by decide) (by decide)) d_X12_need_29 ?_
      refine aw_iconst (v := 1) d_X12_need_30 ic_1 ?_
      exact aw_zret rfl rfl d_X12_need_31 ⟨Nat.le_refl _, Nat.le_refl _⟩ ⟨_, rfl, (Or.inr (Or.inl ⟨c3, c6, rfl, rfl⟩))⟩
    · refine aw_iconst (v := 0) d_X12_need_21 ic_0 ?_
      exact aw_zret rfl rfl d_X12_need_22 ⟨Nat.le_refl _, Nat.le_refl _⟩ ⟨_, rfl, (Or.inr (Or.inr ⟨c3, c6, rfl, rfl⟩))⟩
theorem f_X12_want (d : Nat) (h : Hp_) (w : Wf h)   (x1 : Int32) (x2 : Int32) : Ci (m_X12_want (d + 1) 0 0) [.ref 1, .int x1, .int x2] h (fun r h' => (¬ (0 ≤ x1 ∧ x1 ≤ 7) ∧ r = 0 ∧ h' = h) ∨ ((0 ≤ x1 ∧ x1 ≤ 7) ∧ (1 ≤ x2 ∧ x2 ≤ 3) ∧ r = 1 ∧ h' = h_im h 265 x1.toNatClampNeg x2) ∨ ((0 ≤ x1 ∧ x1 ≤ 7) ∧ ¬ (1 ≤ x2 ∧ x2 ≤ 3) ∧ r = 0 ∧ h' = h)) := by
  refine Ct.of (fun _ _ _ => trivial) rfl (Nat.le_of_ble_eq_true rfl) ?_
  show AW (m_X12_want (d + 1) 0 0) 0 0 0 [(0, .ref 1), (1, .int x1), (2, .int x2)] [] h (kI (fun r h' => (¬ (0 ≤ x1 ∧ x1 ≤ 7) ∧ r = 0 ∧ h' = h) ∨ ((0 ≤ x1 ∧ x1 ≤ 7) ∧ (1 ≤ x2 ∧ x2 ≤ 3) ∧ r = 1 ∧ h' = h_im h 265 x1.toNatClampNeg x2) ∨ ((0 ≤ x1 ∧ x1 ≤ 7) ∧ ¬ (1 ≤ x2 ∧ x2 ≤ 3) ∧ r = 0 ∧ h' = h)))
  refine aw_iload_n (i := 1) rfl d_X12_want_0 1 rfl ?_
  refine aw_iconst (v := 0) d_X12_want_1 ic_0 ?_
  refine aw_bipush (v := 7) d_X12_want_2 ib_7 ?_
  refine aw_Si [.int x1, .int 0, .int 7] [] d_X12_want_4 (cS_X12_in (d + 0) 0 0) tw_2147 rfl (rr0 (Nat.le_of_ble_eq_true rfl) (Nat.le_of_ble_eq_true rfl)) (Nat.le_of_ble_eq_true rfl) xs0 (s_X12_in _ _ x1 0 7) (fun _ _ kk => ?_)
  obtain ⟨e1, e2⟩ := kk
  rw [e1, e2]
  refine aw_ifb_eq (tgt := 19) d_X12_want_7 rfl (fun c3 => ?_) (fun c3 => ?_)
  · refine aw_iconst (v := 0) d_X12_want_19 ic_0 ?_
    exact aw_zret rfl rfl d_X12_want_20 ⟨Nat.le_refl _, Nat.le_refl _⟩ ⟨_, rfl, (Or.inl ⟨c3, rfl, rfl⟩)⟩
  · refine aw_iload_n (i := 2) rfl d_X12_want_10 2 rfl ?_
    refine aw_iconst (v := 1) d_X12_want_11 ic_1 ?_
    refine aw_iconst (v := 3) d_X12_want_12 ic_3 ?_
    refine aw_Si [.int x2, .int 1, .int 3] [] d_X12_want_13 (cS_X12_in (d + 0) 0 0) tw_2147 rfl (rr0 (Nat.le_of_ble_eq_true rfl) (Nat.le_of_ble_eq_true rfl)) (Nat.le_of_ble_eq_true rfl) xs0 (s_X12_in _ _ x2 1 3) (fun _ _ kk => ?_)
    obtain ⟨e4, e5⟩ := kk
    rw [e4, e5]
    refine aw_ifb_ne (tgt := 21) d_X12_want_16 rfl (fun c6 => ?_) (fun c6 => ?_)
    · refine aw_aload_n (i := 0) rfl d_X12_want_21 0 rfl ?_
      refine aw_getr (k0 := 84) kc_12 (ws_1 w) (Nat.le_of_ble_eq_true rfl) tw_1826 d_X12_want_22 rfl (wr_1_84 w) ?_
      refine aw_iload_n (i := 1) rfl d_X12_want_25 1 rfl ?_
      refine aw_iload_n (i := 2) rfl d_X12_want_26 2 rfl ?_
      refine aw_iast (ws_265 w) (vin_of c3 (by decide) (by decide)) d_X12_want_27 ?_
      refine aw_iconst (v := 1) d_X12_want_28 ic_1 ?_
      exact aw_zret rfl rfl d_X12_want_29 ⟨Nat.le_refl _, Nat.le_refl _⟩ ⟨_, rfl, (Or.inr (Or.inl ⟨c3, c6, rfl, rfl⟩))⟩
    · refine aw_iconst (v := 0) d_X12_want_19 ic_0 ?_
      exact aw_zret rfl rfl d_X12_want_20 ⟨Nat.le_refl _, Nat.le_refl _⟩ ⟨_, rfl, (Or.inr (Or.inr ⟨c3, c6, rfl, rfl⟩))⟩
