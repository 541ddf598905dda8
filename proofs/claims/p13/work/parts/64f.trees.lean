theorem t_X12_pointsOf (d : Nat) (h : Hp_) (x1 : Int32) (K : Int32 → Hp_ → Prop) (k : AW (m_X12_pointsOf (d + 0) 0 0) 0 0 8 [(0, .ref 1), (1, .int x1), (2, .int 0), (3, .int (150 * x1))] [] h (kI K)) : Ci (m_X12_pointsOf (d + 0) 0 0) [.ref 1, .int x1] h K := by
  refine Ct.of (fun _ _ _ => trivial) rfl (Nat.le_of_ble_eq_true rfl) ?_
  show AW (m_X12_pointsOf (d + 0) 0 0) 0 0 0 [(0, .ref 1), (1, .int x1)] [] h (kI K)
  refine aw_iconst (v := 0) d_X12_pointsOf_0 ic_0 ?_
  refine aw_istore_n (i := 2) rfl [(0, .ref 1), (1, .int x1), (2, .int 0)] d_X12_pointsOf_1 (Nat.le_of_ble_eq_true rfl) rfl rfl ?_
  refine aw_sipush (v := 150) d_X12_pointsOf_2 is_150 ?_
  refine aw_iload_n (i := 1) rfl d_X12_pointsOf_5 1 rfl ?_
  refine aw_imul d_X12_pointsOf_6 ?_
  refine aw_istore_n (i := 3) rfl [(0, .ref 1), (1, .int x1), (2, .int 0), (3, .int (150 * x1))] d_X12_pointsOf_7 (Nat.le_of_ble_eq_true rfl) rfl rfl ?_
  exact k
theorem t_X12_pointsOf_8 (d : Nat) (h : Hp_) (w : Wf h) (x1 : Int32) (x2 : Int32) (x3 : Int32) (K : Int32 → Hp_ → Prop) (k : vp_in x1 12 ∧ ((((150 * x1) + (h_i h 227 x1.toNatClampNeg)) ≤ x3 → K x2 h) ∧ (¬ ((150 * x1) + (h_i h 227 x1.toNatClampNeg)) ≤ x3 → vp_in x3 1800 ∧ ((¬ (h_i h 228 x3.toNatClampNeg) = 2 → AW (m_X12_pointsOf (d + 0) 0 0) 0 0 8 [(0, .ref 1), (1, .int x1), (2, .int (x2 + 0)), (3, .int (x3 + 1))] [] h (kI K)) ∧ ((h_i h 228 x3.toNatClampNeg) = 2 → AW (m_X12_pointsOf (d + 0) 0 0) 0 0 8 [(0, .ref 1), (1, .int x1), (2, .int (x2 + 1)), (3, .int (x3 + 1))] [] h (kI K)))))) : AW (m_X12_pointsOf (d + 0) 0 0) 0 0 8 [(0, .ref 1), (1, .int x1), (2, .int x2), (3, .int x3)] [] h (kI K) := by
  refine aw_iload_n (i := 3) rfl d_X12_pointsOf_8 3 rfl ?_
  refine aw_sipush (v := 150) d_X12_pointsOf_9 is_150 ?_
  refine aw_iload_n (i := 1) rfl d_X12_pointsOf_12 1 rfl ?_
  refine aw_imul d_X12_pointsOf_13 ?_
  refine aw_aload_n (i := 0) rfl d_X12_pointsOf_14 0 rfl ?_
  refine aw_getr (k0 := 38) kc_12 (ws_1 w) (Nat.le_of_ble_eq_true rfl) tw_1780 d_X12_pointsOf_15 rfl (wr_1_38 w) ?_
  refine aw_iload_n (i := 1) rfl d_X12_pointsOf_18 1 rfl ?_
  obtain ⟨b1, k⟩ := k
  refine aw_iald (ws_227 w) b1 d_X12_pointsOf_19 ?_
  refine aw_iadd d_X12_pointsOf_20 ?_
  refine aw_icmp_ge (tgt := 48) d_X12_pointsOf_21 rfl (fun c2 => ?_) (fun c2 => ?_)
  · have k := k.1 c2
    refine aw_iload_n (i := 2) rfl d_X12_pointsOf_48 2 rfl ?_
    exact aw_iret rfl d_X12_pointsOf_49 ⟨Nat.le_refl _, Nat.le_refl _⟩ ⟨_, rfl, k⟩
  · have k := k.2 c2
    refine aw_iload_n (i := 2) rfl d_X12_pointsOf_24 2 rfl ?_
    refine aw_aload_n (i := 0) rfl d_X12_pointsOf_25 0 rfl ?_
    refine aw_getr (k0 := 39) kc_12 (ws_1 w) (Nat.le_of_ble_eq_true rfl) tw_1781 d_X12_pointsOf_26 rfl (wr_1_39 w) ?_
    refine aw_iload_n (i := 3) rfl d_X12_pointsOf_29 3 rfl ?_
    obtain ⟨b3, k⟩ := k
    refine aw_iald (ws_228 w) b3 d_X12_pointsOf_30 ?_
    refine aw_iconst (v := 2) d_X12_pointsOf_31 ic_2 ?_
    refine aw_icmp_ne (tgt := 39) d_X12_pointsOf_32 rfl (fun c4 => ?_) (fun c4 => ?_)
    · have k := k.1 c4
      refine aw_iconst (v := 0) d_X12_pointsOf_39 ic_0 ?_
      refine aw_iadd d_X12_pointsOf_40 ?_
      refine aw_istore_n (i := 2) rfl [(0, .ref 1), (1, .int x1), (2, .int (x2 + 0)), (3, .int x3)] d_X12_pointsOf_41 (Nat.le_of_ble_eq_true rfl) rfl rfl ?_
      refine aw_iinc (v := (x3 + 1)) [(0, .ref 1), (1, .int x1), (2, .int (x2 + 0)), (3, .int (x3 + 1))] d_X12_pointsOf_42 3 rfl rfl (Nat.le_of_ble_eq_true rfl) rfl rfl ?_
      refine aw_goto (tgt := 8) d_X12_pointsOf_45 rfl ?_
      exact k
    · have k := k.2 c4
      refine aw_iconst (v := 1) d_X12_pointsOf_35 ic_1 ?_
      refine aw_goto (tgt := 40) d_X12_pointsOf_36 rfl ?_
      refine aw_iadd d_X12_pointsOf_40 ?_
      refine aw_istore_n (i := 2) rfl [(0, .ref 1), (1, .int x1), (2, .int (x2 + 1)), (3, .int x3)] d_X12_pointsOf_41 (Nat.le_of_ble_eq_true rfl) rfl rfl ?_
      refine aw_iinc (v := (x3 + 1)) [(0, .ref 1), (1, .int x1), (2, .int (x2 + 1)), (3, .int (x3 + 1))] d_X12_pointsOf_42 3 rfl rfl (Nat.le_of_ble_eq_true rfl) rfl rfl ?_
      refine aw_goto (tgt := 8) d_X12_pointsOf_45 rfl ?_
      exact k
theorem t_X12_begin (d : Nat) (h : Hp_) (w : Wf h) (x1 : Int32) (x2 : Int32) (K : Int32 → Hp_ → Prop) (k : (¬ (0 ≤ x1 ∧ x1 ≤ (h_i h 1 7) - 1) → K 0 h) ∧ ((0 ≤ x1 ∧ x1 ≤ (h_i h 1 7) - 1) → (¬ (0 ≤ x2 ∧ x2 ≤ ((h_i h 1 42) - 1)) → K 0 h) ∧ ((0 ≤ x2 ∧ x2 ≤ ((h_i h 1 42) - 1)) → vp_in x1 12 ∧ ((¬ (h_i h 208 x1.toNatClampNeg) = 0 → K 0 h) ∧ ((h_i h 208 x1.toNatClampNeg) = 0 → Ci (m_X12_pointsOf (d + 0) 0 0) [.ref 1, .int x2] h (fun r11 h9 => Wf h9 ∧ ((((h_i h 1 63) + r11) ≤ 400 → vp_in x1 12 ∧ (vp_in x1 12 ∧ (vp_in x1 12 ∧ (vp_in x1 12 ∧ (vp_in x1 12 ∧ (vp_in x1 12 ∧ (AW (m_X12_begin (d + 4) 0 0) 0 0 106 [(0, .ref 1), (1, .int x1), (2, .int x2), (3, .int (150 * x2))] [] (h_im (h_im (h_im (h_im (h_im (h_im h9 208 x1.toNatClampNeg 1) 212 x1.toNatClampNeg x2) 213 x1.toNatClampNeg 0) 214 x1.toNatClampNeg (h_i h9 1 0)) 215 x1.toNatClampNeg (h_i h9 1 63)) 216 x1.toNatClampNeg (h_i h9 1 63)) (kI K)))))))) ∧ (¬ ((h_i h 1 63) + r11) ≤ 400 → K 0 h9)))))))) : Ci (m_X12_begin (d + 4) 0 0) [.ref 1, .int x1, .int x2] h K := by
  refine Ct.of (fun _ _ _ => trivial) rfl (Nat.le_of_ble_eq_true rfl) ?_
  show AW (m_X12_begin (d + 4) 0 0) 0 0 0 [(0, .ref 1), (1, .int x1), (2, .int x2)] [] h (kI K)
  refine aw_aload_n (i := 0) rfl d_X12_begin_0 0 rfl ?_
  refine aw_iload_n (i := 1) rfl d_X12_begin_1 1 rfl ?_
  refine aw_Vi 1 [.int x1] [] d_X12_begin_2 (cV_X12_isMan (d + 1) 0 0) kc_12 (ws_1 w) tw_2163 rfl (rr0 (Nat.le_of_ble_eq_true rfl) (Nat.le_of_ble_eq_true rfl)) (Nat.le_of_ble_eq_true rfl) xs0 (s_X12_isMan _ _ w x1) (fun _ _ kk => ?_)
  obtain ⟨e1, e2⟩ := kk
  rw [e1, e2]
  refine aw_ifb_eq (tgt := 47) d_X12_begin_5 rfl (fun c3 => ?_) (fun c3 => ?_)
  · have k := k.1 c3
    refine aw_iconst (v := 0) d_X12_begin_47 ic_0 ?_
    exact aw_zret rfl rfl d_X12_begin_48 ⟨Nat.le_refl _, Nat.le_refl _⟩ ⟨_, rfl, k⟩
  · have k := k.2 c3
    refine aw_iload_n (i := 2) rfl d_X12_begin_8 2 rfl ?_
    refine aw_iconst (v := 0) d_X12_begin_9 ic_0 ?_
    refine aw_aload_n (i := 0) rfl d_X12_begin_10 0 rfl ?_
    refine aw_geti (k0 := 42) kc_12 (ws_1 w) (Nat.le_of_ble_eq_true rfl) tw_1784 d_X12_begin_11 rfl ?_
    refine aw_iconst (v := 1) d_X12_begin_14 ic_1 ?_
    refine aw_isub d_X12_begin_15 ?_
    refine aw_Si [.int x2, .int 0, .int ((h_i h 1 42) - 1)] [] d_X12_begin_16 (cS_X12_in (d + 0) 0 0) tw_2143 rfl (rr0 (Nat.le_of_ble_eq_true rfl) (Nat.le_of_ble_eq_true rfl)) (Nat.le_of_ble_eq_true rfl) xs0 (s_X12_in _ _ x2 0 ((h_i h 1 42) - 1)) (fun _ _ kk => ?_)
    obtain ⟨e4, e5⟩ := kk
    rw [e4, e5]
    refine aw_ifb_eq (tgt := 47) d_X12_begin_19 rfl (fun c6 => ?_) (fun c6 => ?_)
    · have k := k.1 c6
      refine aw_iconst (v := 0) d_X12_begin_47 ic_0 ?_
      exact aw_zret rfl rfl d_X12_begin_48 ⟨Nat.le_refl _, Nat.le_refl _⟩ ⟨_, rfl, k⟩
    · have k := k.2 c6
      refine aw_aload_n (i := 0) rfl d_X12_begin_22 0 rfl ?_
      refine aw_getr (k0 := 12) kc_12 (ws_1 w) (Nat.le_of_ble_eq_true rfl) tw_1754 d_X12_begin_23 rfl (wr_1_12 w) ?_
      refine aw_iload_n (i := 1) rfl d_X12_begin_26 1 rfl ?_
      obtain ⟨b7, k⟩ := k
      refine aw_iald (ws_208 w) b7 d_X12_begin_27 ?_
      refine aw_if_ne (tgt := 47) d_X12_begin_28 rfl (fun c8 => ?_) (fun c8 => ?_)
      · have k := k.1 c8
        refine aw_iconst (v := 0) d_X12_begin_47 ic_0 ?_
        exact aw_zret rfl rfl d_X12_begin_48 ⟨Nat.le_refl _, Nat.le_refl _⟩ ⟨_, rfl, k⟩
      · have k := k.2 c8
        refine aw_aload_n (i := 0) rfl d_X12_begin_31 0 rfl ?_
        refine aw_geti (k0 := 63) kc_12 (ws_1 w) (Nat.le_of_ble_eq_true rfl) tw_1805 d_X12_begin_32 rfl ?_
        refine aw_aload_n (i := 0) rfl d_X12_begin_35 0 rfl ?_
        refine aw_iload_n (i := 2) rfl d_X12_begin_36 2 rfl ?_
        refine aw_Vi 1 [.int x2] [.int (h_i h 1 63)] d_X12_begin_37 (cV_X12_pointsOf (d + 0) 0 0) kc_12 (ws_1 w) tw_2287 rfl (rr0 (Nat.le_of_ble_eq_true rfl) (Nat.le_of_ble_eq_true rfl)) (Nat.le_of_ble_eq_true rfl) xs0 k (fun r11 h9 kk => ?_)
        obtain ⟨w10, k⟩ := kk
        refine aw_iadd d_X12_begin_40 ?_
        refine aw_sipush (v := 400) d_X12_begin_41 is_400 ?_
        refine aw_icmp_le (tgt := 49) d_X12_begin_44 rfl (fun c12 => ?_) (fun c12 => ?_)
        · have k := k.1 c12
          refine aw_aload_n (i := 0) rfl d_X12_begin_49 0 rfl ?_
          refine aw_getr (k0 := 12) kc_12 (ws_1 w10) (Nat.le_of_ble_eq_true rfl) tw_1754 d_X12_begin_50 rfl (wr_1_12 w10) ?_
          refine aw_iload_n (i := 1) rfl d_X12_begin_53 1 rfl ?_
          refine aw_iconst (v := 1) d_X12_begin_54 ic_1 ?_
          obtain ⟨b13, k⟩ := k
          refine aw_iast (ws_208 w10) b13 d_X12_begin_55 ?_
          refine aw_aload_n (i := 0) rfl d_X12_begin_56 0 rfl ?_
          refine aw_getr (k0 := 16) kc_12 (ws_1 w10) (Nat.le_of_ble_eq_true rfl) tw_1758 d_X12_begin_57 rfl (wr_1_16 w10) ?_
          refine aw_iload_n (i := 1) rfl d_X12_begin_60 1 rfl ?_
          refine aw_iload_n (i := 2) rfl d_X12_begin_61 2 rfl ?_
          obtain ⟨b14, k⟩ := k
          refine aw_iast (ws_212 w10) b14 d_X12_begin_62 ?_
          refine aw_aload_n (i := 0) rfl d_X12_begin_63 0 rfl ?_
          refine aw_getr (k0 := 17) kc_12 (ws_1 w10) (Nat.le_of_ble_eq_true rfl) tw_1759 d_X12_begin_64 rfl (wr_1_17 w10) ?_
          refine aw_iload_n (i := 1) rfl d_X12_begin_67 1 rfl ?_
          refine aw_iconst (v := 0) d_X12_begin_68 ic_0 ?_
          obtain ⟨b15, k⟩ := k
          refine aw_iast (ws_213 w10) b15 d_X12_begin_69 ?_
          refine aw_aload_n (i := 0) rfl d_X12_begin_70 0 rfl ?_
          refine aw_getr (k0 := 18) kc_12 (ws_1 w10) (Nat.le_of_ble_eq_true rfl) tw_1760 d_X12_begin_71 rfl (wr_1_18 w10) ?_
          refine aw_iload_n (i := 1) rfl d_X12_begin_74 1 rfl ?_
          refine aw_aload_n (i := 0) rfl d_X12_begin_75 0 rfl ?_
          refine aw_geti (k0 := 0) kc_12 (ws_1 w10) (Nat.le_of_ble_eq_true rfl) tw_1742 d_X12_begin_76 rfl ?_
          refine aw_vi (v2 := (h_i h9 1 0)) (rfl) ?_
          obtain ⟨b16, k⟩ := k
          refine aw_iast (ws_214 w10) b16 d_X12_begin_79 ?_
          refine aw_aload_n (i := 0) rfl d_X12_begin_80 0 rfl ?_
          refine aw_getr (k0 := 19) kc_12 (ws_1 w10) (Nat.le_of_ble_eq_true rfl) tw_1761 d_X12_begin_81 rfl (wr_1_19 w10) ?_
          refine aw_iload_n (i := 1) rfl d_X12_begin_84 1 rfl ?_
          refine aw_aload_n (i := 0) rfl d_X12_begin_85 0 rfl ?_
          refine aw_geti (k0 := 63) kc_12 (ws_1 w10) (Nat.le_of_ble_eq_true rfl) tw_1805 d_X12_begin_86 rfl ?_
          refine aw_vi (v2 := (h_i h9 1 63)) (rfl) ?_
          obtain ⟨b17, k⟩ := k
          refine aw_iast (ws_215 w10) b17 d_X12_begin_89 ?_
          refine aw_aload_n (i := 0) rfl d_X12_begin_90 0 rfl ?_
          refine aw_getr (k0 := 20) kc_12 (ws_1 w10) (Nat.le_of_ble_eq_true rfl) tw_1762 d_X12_begin_91 rfl (wr_1_20 w10) ?_
          refine aw_iload_n (i := 1) rfl d_X12_begin_94 1 rfl ?_
          refine aw_aload_n (i := 0) rfl d_X12_begin_95 0 rfl ?_
          refine aw_geti (k0 := 63) kc_12 (ws_1 w10) (Nat.le_of_ble_eq_true rfl) tw_1805 d_X12_begin_96 rfl ?_
          refine aw_vi (v2 := (h_i h9 1 63)) (rfl) ?_
          obtain ⟨b18, k⟩ := k
          refine aw_iast (ws_216 w10) b18 d_X12_begin_99 ?_
          refine aw_sipush (v := 150) d_X12_begin_100 is_150 ?_
          refine aw_iload_n (i := 2) rfl d_X12_begin_103 2 rfl ?_
          refine aw_imul d_X12_begin_104 ?_
          refine aw_istore_n (i := 3) rfl [(0, .ref 1), (1, .int x1), (2, .int x2), (3, .int (150 * x2))] d_X12_begin_105 (Nat.le_of_ble_eq_true rfl) rfl rfl ?_
          exact k
        · have k := k.2 c12
          refine aw_iconst (v := 0) d_X12_begin_47 ic_0 ?_
          exact aw_zret rfl rfl d_X12_begin_48 ⟨Nat.le_refl _, Nat.le_refl _⟩ ⟨_, rfl, k⟩
theorem t_X12_begin_106 (d : Nat) (h : Hp_) (w : Wf h) (x1 : Int32) (x2 : Int32) (x3 : Int32) (K : Int32 → Hp_ → Prop) (k : vp_in x2 12 ∧ ((((150 * x2) + (h_i h 227 x2.toNatClampNeg)) ≤ x3 → vp_in x1 12 ∧ (Cv (m_X12_goOn (d + 3) 0 0) [.ref 1, .int x1] (h_im h 217 x1.toNatClampNeg (h_i h 1 63)) (fun h22 => Wf h22 ∧ (K 1 h22)))) ∧ (¬ ((150 * x2) + (h_i h 227 x2.toNatClampNeg)) ≤ x3 → vp_in x3 1800 ∧ ((¬ (h_i h 228 x3.toNatClampNeg) = 2 → AW (m_X12_begin (d + 4) 0 0) 0 0 106 [(0, .ref 1), (1, .int x1), (2, .int x2), (3, .int (x3 + 1))] [] h (kI K)) ∧ ((h_i h 228 x3.toNatClampNeg) = 2 → vp_in (h_i h 1 63) 400 ∧ (vp_in x3 1800 ∧ (vp_in (h_i h 1 63) 400 ∧ (vp_in x3 1800 ∧ (vp_in (h_i h 1 63) 400 ∧ (vp_in (h_i h 1 63) 400 ∧ (vp_in (h_i h 1 63) 400 ∧ (vp_in (h_i h 1 63) 400 ∧ (AW (m_X12_begin (d + 4) 0 0) 0 0 106 [(0, .ref 1), (1, .int x1), (2, .int x2), (3, .int (x3 + 1))] [] (h_im (h_im (h_im (h_im (h_im (h_im (h_im h 238 ((h_i h 1 63) : Int32).toNatClampNeg x1) 239 ((h_i h 1 63) : Int32).toNatClampNeg (h_i h 229 x3.toNatClampNeg)) 240 ((h_i h 1 63) : Int32).toNatClampNeg ((h_i h 1 0) + (h_i h 230 x3.toNatClampNeg))) 241 ((h_i h 1 63) : Int32).toNatClampNeg (-1)) 242 ((h_i h 1 63) : Int32).toNatClampNeg (-1)) 244 ((h_i h 1 63) : Int32).toNatClampNeg (h_i h 1 0)) 1 63 ((h_i h 1 63) + 1)) (kI K)))))))))))))) : AW (m_X12_begin (d + 4) 0 0) 0 0 106 [(0, .ref 1), (1, .int x1), (2, .int x2), (3, .int x3)] [] h (kI K) := by
  refine aw_iload_n (i := 3) rfl d_X12_begin_106 3 rfl ?_
  refine aw_sipush (v := 150) d_X12_begin_107 is_150 ?_
  refine aw_iload_n (i := 2) rfl d_X12_begin_110 2 rfl ?_
  refine aw_imul d_X12_begin_111 ?_
  refine aw_aload_n (i := 0) rfl d_X12_begin_112 0 rfl ?_
  refine aw_getr (k0 := 38) kc_12 (ws_1 w) (Nat.le_of_ble_eq_true rfl) tw_1780 d_X12_begin_113 rfl (wr_1_38 w) ?_
  refine aw_iload_n (i := 2) rfl d_X12_begin_116 2 rfl ?_
  obtain ⟨b19, k⟩ := k
  refine aw_iald (ws_227 w) b19 d_X12_begin_117 ?_
  refine aw_iadd d_X12_begin_118 ?_
  refine aw_icmp_ge (tgt := 226) d_X12_begin_119 rfl (fun c20 => ?_) (fun c20 => ?_)
  · have k := k.1 c20
    refine aw_aload_n (i := 0) rfl d_X12_begin_226 0 rfl ?_
    refine aw_getr (k0 := 21) kc_12 (ws_1 w) (Nat.le_of_ble_eq_true rfl) tw_1763 d_X12_begin_227 rfl (wr_1_21 w) ?_
    refine aw_iload_n (i := 1) rfl d_X12_begin_230 1 rfl ?_
    refine aw_aload_n (i := 0) rfl d_X12_begin_231 0 rfl ?_
    refine aw_geti (k0 := 63) kc_12 (ws_1 w) (Nat.le_of_ble_eq_true rfl) tw_1805 d_X12_begin_232 rfl ?_
    obtain ⟨b21, k⟩ := k
    refine aw_iast (ws_217 w) b21 d_X12_begin_235 ?_
    refine aw_aload_n (i := 0) rfl d_X12_begin_236 0 rfl ?_
    refine aw_iload_n (i := 1) rfl d_X12_begin_237 1 rfl ?_
    refine aw_Vv 1 [.int x1] [] d_X12_begin_238 (cV_X12_goOn (d + 3) 0 0) kc_12 (ws_1 w) tw_2336 rfl (rr0 (Nat.le_of_ble_eq_true rfl) (Nat.le_of_ble_eq_true rfl)) (Nat.le_of_ble_eq_true rfl) xs0 k (fun h22 kk => ?_)
    obtain ⟨w23, k⟩ := kk
    refine aw_iconst (v := 1) d_X12_begin_241 ic_1 ?_
    exact aw_zret rfl rfl d_X12_begin_242 ⟨Nat.le_refl _, Nat.le_refl _⟩ ⟨_, rfl, k⟩
  · have k := k.2 c20
    refine aw_aload_n (i := 0) rfl d_X12_begin_122 0 rfl ?_
    refine aw_getr (k0 := 39) kc_12 (ws_1 w) (Nat.le_of_ble_eq_true rfl) tw_1781 d_X12_begin_123 rfl (wr_1_39 w) ?_
    refine aw_iload_n (i := 3) rfl d_X12_begin_126 3 rfl ?_
    obtain ⟨b25, k⟩ := k
    refine aw_iald (ws_228 w) b25 d_X12_begin_127 ?_
    refine aw_iconst (v := 2) d_X12_begin_128 ic_2 ?_
    refine aw_icmp_ne (tgt := 220) d_X12_begin_129 rfl (fun c26 => ?_) (fun c26 => ?_)
    · have k := k.1 c26
      refine aw_iinc (v := (x3 + 1)) [(0, .ref 1), (1, .int x1), (2, .int x2), (3, .int (x3 + 1))] d_X12_begin_220 3 rfl rfl (Nat.le_of_ble_eq_true rfl) rfl rfl ?_
      refine aw_goto (tgt := 106) d_X12_begin_223 rfl ?_
      exact k
    · have k := k.2 c26
      refine aw_aload_n (i := 0) rfl d_X12_begin_132 0 rfl ?_
      refine aw_getr (k0 := 53) kc_12 (ws_1 w) (Nat.le_of_ble_eq_true rfl) tw_1795 d_X12_begin_133 rfl (wr_1_53 w) ?_
      refine aw_aload_n (i := 0) rfl d_X12_begin_136 0 rfl ?_
      refine aw_geti (k0 := 63) kc_12 (ws_1 w) (Nat.le_of_ble_eq_true rfl) tw_1805 d_X12_begin_137 rfl ?_
      refine aw_iload_n (i := 1) rfl d_X12_begin_140 1 rfl ?_
      obtain ⟨b27, k⟩ := k
      refine aw_iast (ws_238 w) b27 d_X12_begin_141 ?_
      refine aw_aload_n (i := 0) rfl d_X12_begin_142 0 rfl ?_
      refine aw_getr (k0 := 54) kc_12 (ws_1 w) (Nat.le_of_ble_eq_true rfl) tw_1796 d_X12_begin_143 rfl (wr_1_54 w) ?_
      refine aw_aload_n (i := 0) rfl d_X12_begin_146 0 rfl ?_
      refine aw_geti (k0 := 63) kc_12 (ws_1 w) (Nat.le_of_ble_eq_true rfl) tw_1805 d_X12_begin_147 rfl ?_
      refine aw_vi (v2 := (h_i h 1 63)) (rfl) ?_
      refine aw_aload_n (i := 0) rfl d_X12_begin_150 0 rfl ?_
      refine aw_getr (k0 := 40) kc_12 (ws_1 w) (Nat.le_of_ble_eq_true rfl) tw_1782 d_X12_begin_151 rfl (wr_1_40 w) ?_
      refine aw_iload_n (i := 3) rfl d_X12_begin_154 3 rfl ?_
      obtain ⟨b28, k⟩ := k
      refine aw_iald (ws_229 w) b28 d_X12_begin_155 ?_
      refine aw_vi (v2 := (h_i h 229 x3.toNatClampNeg)) (rfl) ?_
      obtain ⟨b29, k⟩ := k
      refine aw_iast (ws_239 w) b29 d_X12_begin_156 ?_
      refine aw_aload_n (i := 0) rfl d_X12_begin_157 0 rfl ?_
      refine aw_getr (k0 := 55) kc_12 (ws_1 w) (Nat.le_of_ble_eq_true rfl) tw_1797 d_X12_begin_158 rfl (wr_1_55 w) ?_
      refine aw_aload_n (i := 0) rfl d_X12_begin_161 0 rfl ?_
      refine aw_geti (k0 := 63) kc_12 (ws_1 w) (Nat.le_of_ble_eq_true rfl) tw_1805 d_X12_begin_162 rfl ?_
      refine aw_vi (v2 := (h_i h 1 63)) (rfl) ?_
      refine aw_aload_n (i := 0) rfl d_X12_begin_165 0 rfl ?_
      refine aw_geti (k0 := 0) kc_12 (ws_1 w) (Nat.le_of_ble_eq_true rfl) tw_1742 d_X12_begin_166 rfl ?_
      refine aw_vi (v2 := (h_i h 1 0)) (rfl) ?_
      refine aw_aload_n (i := 0) rfl d_X12_begin_169 0 rfl ?_
      refine aw_getr (k0 := 41) kc_12 (ws_1 w) (Nat.le_of_ble_eq_true rfl) tw_1783 d_X12_begin_170 rfl (wr_1_41 w) ?_
      refine aw_iload_n (i := 3) rfl d_X12_begin_173 3 rfl ?_
      obtain ⟨b30, k⟩ := k
      refine aw_iald (ws_230 w) b30 d_X12_begin_174 ?_
      refine aw_vi (v2 := (h_i h 230 x3.toNatClampNeg)) (rfl) ?_
      refine aw_iadd d_X12_begin_175 ?_
      obtain ⟨b31, k⟩ := k
      refine aw_iast (ws_240 w) b31 d_X12_begin_176 ?_
      refine aw_aload_n (i := 0) rfl d_X12_begin_177 0 rfl ?_
      refine aw_getr (k0 := 56) kc_12 (ws_1 w) (Nat.le_of_ble_eq_true rfl) tw_1798 d_X12_begin_178 rfl (wr_1_56 w) ?_
      refine aw_aload_n (i := 0) rfl d_X12_begin_181 0 rfl ?_
      refine aw_geti (k0 := 63) kc_12 (ws_1 w) (Nat.le_of_ble_eq_true rfl) tw_1805 d_X12_begin_182 rfl ?_
      refine aw_vi (v2 := (h_i h 1 63)) (rfl) ?_
      refine aw_iconst (v := (-1)) d_X12_begin_185 ic_m1 ?_
      obtain ⟨b32, k⟩ := k
      refine aw_iast (ws_241 w) b32 d_X12_begin_186 ?_
      refine aw_aload_n (i := 0) rfl d_X12_begin_187 0 rfl ?_
      refine aw_getr (k0 := 57) kc_12 (ws_1 w) (Nat.le_of_ble_eq_true rfl) tw_1799 d_X12_begin_188 rfl (wr_1_57 w) ?_
      refine aw_aload_n (i := 0) rfl d_X12_begin_191 0 rfl ?_
      refine aw_geti (k0 := 63) kc_12 (ws_1 w) (Nat.le_of_ble_eq_true rfl) tw_1805 d_X12_begin_192 rfl ?_
      refine aw_vi (v2 := (h_i h 1 63)) (rfl) ?_
      refine aw_iconst (v := (-1)) d_X12_begin_195 ic_m1 ?_
      obtain ⟨b33, k⟩ := k
      refine aw_iast (ws_242 w) b33 d_X12_begin_196 ?_
      refine aw_aload_n (i := 0) rfl d_X12_begin_197 0 rfl ?_
      refine aw_getr (k0 := 59) kc_12 (ws_1 w) (Nat.le_of_ble_eq_true rfl) tw_1801 d_X12_begin_198 rfl (wr_1_59 w) ?_
      refine aw_aload_n (i := 0) rfl d_X12_begin_201 0 rfl ?_
      refine aw_geti (k0 := 63) kc_12 (ws_1 w) (Nat.le_of_ble_eq_true rfl) tw_1805 d_X12_begin_202 rfl ?_
      refine aw_vi (v2 := (h_i h 1 63)) (rfl) ?_
      refine aw_aload_n (i := 0) rfl d_X12_begin_205 0 rfl ?_
      refine aw_geti (k0 := 0) kc_12 (ws_1 w) (Nat.le_of_ble_eq_true rfl) tw_1742 d_X12_begin_206 rfl ?_
      refine aw_vi (v2 := (h_i h 1 0)) (rfl) ?_
      obtain ⟨b34, k⟩ := k
      refine aw_iast (ws_244 w) b34 d_X12_begin_209 ?_
      refine aw_aload_n (i := 0) rfl d_X12_begin_210 0 rfl ?_
      refine aw_dup d_X12_begin_211 rfl ?_
      refine aw_geti (k0 := 63) kc_12 (ws_1 w) (Nat.le_of_ble_eq_true rfl) tw_1805 d_X12_begin_212 rfl ?_
      refine aw_vi (v2 := (h_i h 1 63)) (rfl) ?_
      refine aw_iconst (v := 1) d_X12_begin_215 ic_1 ?_
      refine aw_iadd d_X12_begin_216 ?_
      refine aw_puti (k0 := 63) kc_12 (ws_1 w) (Nat.le_of_ble_eq_true rfl) tw_1805 d_X12_begin_217 rfl rfl nf_i ?_
      refine aw_iinc (v := (x3 + 1)) [(0, .ref 1), (1, .int x1), (2, .int x2), (3, .int (x3 + 1))] d_X12_begin_220 3 rfl rfl (Nat.le_of_ble_eq_true rfl) rfl rfl ?_
      refine aw_goto (tgt := 106) d_X12_begin_223 rfl ?_
      exact k
theorem t_X12_draw (d : Nat) (h : Hp_) (w : Wf h) (x1 : Int32) (x2 : Int32) (x3 : Int32) (K : Int32 → Hp_ → Prop) (k : (¬ (0 ≤ x1 ∧ x1 ≤ (h_i h 1 7) - 1) → K 0 h) ∧ ((0 ≤ x1 ∧ x1 ≤ (h_i h 1 7) - 1) → (¬ (0 ≤ x2 ∧ x2 ≤ 15) → K 0 h) ∧ ((0 ≤ x2 ∧ x2 ≤ 15) → (¬ ((h_i h 1 0) ≤ x3 ∧ x3 ≤ 30000) → K 0 h) ∧ (((h_i h 1 0) ≤ x3 ∧ x3 ≤ 30000) → vp_in x1 12 ∧ (Ci (m_X12_walkOf (d + 0) 0 0) [.ref 1, .int (h_i h 206 x1.toNatClampNeg), .int x2] h (fun r13 h11 => Wf h11 ∧ ((r13 = (-1) → K 0 h11) ∧ (¬ r13 = (-1) → vp_in x1 12 ∧ (((h_i h11 208 x1.toNatClampNeg) = 3 → K 0 h11) ∧ (¬ (h_i h11 208 x1.toNatClampNeg) = 3 → vp_in x1 12 ∧ ((¬ (h_i h11 208 x1.toNatClampNeg) = 4 → vp_in x1 12 ∧ ((¬ (h_i h11 208 x1.toNatClampNeg) = 1 → vp_in x1 12 ∧ (vp_in x1 12 ∧ (vp_in x1 12 ∧ (vp_in x1 12 ∧ (vp_in x1 12 ∧ ((¬ (h_i h11 210 x1.toNatClampNeg) = (-1) → vp_in x1 12 ∧ (vp_in x1 12 ∧ ((¬ (h_i h11 210 x1.toNatClampNeg) = (-1) → K 1 (h_im (h_im (h_im (h_im (h_im h11 213 x1.toNatClampNeg (-1)) 208 x1.toNatClampNeg 3) 218 x1.toNatClampNeg x2) 219 x1.toNatClampNeg x3) 248 x1.toNatClampNeg (vp_nar .boolean 0))) ∧ ((h_i h11 210 x1.toNatClampNeg) = (-1) → Cv (m_X12_goDrawn (d + 4) 0 0) [.ref 1, .int x1] (h_im (h_im (h_im (h_im (h_im h11 213 x1.toNatClampNeg (-1)) 208 x1.toNatClampNeg 3) 218 x1.toNatClampNeg x2) 219 x1.toNatClampNeg x3) 248 x1.toNatClampNeg (vp_nar .boolean 0)) (fun h30 => Wf h30 ∧ (K 1 h30)))))) ∧ ((h_i h11 210 x1.toNatClampNeg) = (-1) → vp_in x1 12 ∧ (vp_in x1 12 ∧ ((¬ (h_i h11 210 x1.toNatClampNeg) = (-1) → K 1 (h_im (h_im (h_im (h_im (h_im h11 213 x1.toNatClampNeg (-1)) 208 x1.toNatClampNeg 3) 218 x1.toNatClampNeg x2) 219 x1.toNatClampNeg x3) 248 x1.toNatClampNeg (vp_nar .boolean 1))) ∧ ((h_i h11 210 x1.toNatClampNeg) = (-1) → Cv (m_X12_goDrawn (d + 4) 0 0) [.ref 1, .int x1] (h_im (h_im (h_im (h_im (h_im h11 213 x1.toNatClampNeg (-1)) 208 x1.toNatClampNeg 3) 218 x1.toNatClampNeg x2) 219 x1.toNatClampNeg x3) 248 x1.toNatClampNeg (vp_nar .boolean 1)) (fun h36 => Wf h36 ∧ (K 1 h36)))))))))))) ∧ ((h_i h11 208 x1.toNatClampNeg) = 1 → Cv (m_X12_drop (d + 1) 0 0) [.ref 1, .int x1, .int 3] h11 (fun h39 => Wf h39 ∧ (vp_in x1 12 ∧ (vp_in x1 12 ∧ (vp_in x1 12 ∧ (vp_in x1 12 ∧ (vp_in x1 12 ∧ ((¬ (h_i h39 210 x1.toNatClampNeg) = (-1) → vp_in x1 12 ∧ (vp_in x1 12 ∧ ((¬ (h_i h39 210 x1.toNatClampNeg) = (-1) → K 1 (h_im (h_im (h_im (h_im (h_im h39 213 x1.toNatClampNeg (-1)) 208 x1.toNatClampNeg 3) 218 x1.toNatClampNeg x2) 219 x1.toNatClampNeg x3) 248 x1.toNatClampNeg (vp_nar .boolean 0))) ∧ ((h_i h39 210 x1.toNatClampNeg) = (-1) → Cv (m_X12_goDrawn (d + 4) 0 0) [.ref 1, .int x1] (h_im (h_im (h_im (h_im (h_im h39 213 x1.toNatClampNeg (-1)) 208 x1.toNatClampNeg 3) 218 x1.toNatClampNeg x2) 219 x1.toNatClampNeg x3) 248 x1.toNatClampNeg (vp_nar .boolean 0)) (fun h51 => Wf h51 ∧ (K 1 h51)))))) ∧ ((h_i h39 210 x1.toNatClampNeg) = (-1) → vp_in x1 12 ∧ (vp_in x1 12 ∧ ((¬ (h_i h39 210 x1.toNatClampNeg) = (-1) → K 1 (h_im (h_im (h_im (h_im (h_im h39 213 x1.toNatClampNeg (-1)) 208 x1.toNatClampNeg 3) 218 x1.toNatClampNeg x2) 219 x1.toNatClampNeg x3) 248 x1.toNatClampNeg (vp_nar .boolean 1))) ∧ ((h_i h39 210 x1.toNatClampNeg) = (-1) → Cv (m_X12_goDrawn (d + 4) 0 0) [.ref 1, .int x1] (h_im (h_im (h_im (h_im (h_im h39 213 x1.toNatClampNeg (-1)) 208 x1.toNatClampNeg 3) 218 x1.toNatClampNeg x2) 219 x1.toNatClampNeg x3) 248 x1.toNatClampNeg (vp_nar .boolean 1)) (fun h57 => Wf h57 ∧ (K 1 h57)))))))))))))))) ∧ ((h_i h11 208 x1.toNatClampNeg) = 4 → K 0 h11)))))))))))) : Ci (m_X12_draw (d + 5) 0 0) [.ref 1, .int x1, .int x2, .int x3] h K := by
  refine Ct.of (fun _ _ _ => trivial) rfl (Nat.le_of_ble_eq_true rfl) ?_
  show AW (m_X12_draw (d + 5) 0 0) 0 0 0 [(0, .ref 1), (1, .int x1), (2, .int x2), (3, .int x3)] [] h (kI K)
  refine aw_aload_n (i := 0) rfl d_X12_draw_0 0 rfl ?_
  refine aw_iload_n (i := 1) rfl d_X12_draw_1 1 rfl ?_
  refine aw_Vi 1 [.int x1] [] d_X12_draw_2 (cV_X12_isMan (d + 1) 0 0) kc_12 (ws_1 w) tw_2163 rfl (rr0 (Nat.le_of_ble_eq_true rfl) (Nat.le_of_ble_eq_true rfl)) (Nat.le_of_ble_eq_true rfl) xs0 (s_X12_isMan _ _ w x1) (fun _ _ kk => ?_)
  obtain ⟨e1, e2⟩ := kk
  rw [e1, e2]
  refine aw_ifb_eq (tgt := 64) d_X12_draw_5 rfl (fun c3 => ?_) (fun c3 => ?_)
  · have k := k.1 c3
    refine aw_iconst (v := 0) d_X12_draw_64 ic_0 ?_
    exact aw_zret rfl rfl d_X12_draw_65 ⟨Nat.le_refl _, Nat.le_refl _⟩ ⟨_, rfl, k⟩
  · have k := k.2 c3
    refine aw_iload_n (i := 2) rfl d_X12_draw_8 2 rfl ?_
    refine aw_Si [.int x2] [] d_X12_draw_9 (cS_X12_isPlace (d + 1) 0 0) tw_2140 rfl (rr0 (Nat.le_of_ble_eq_true rfl) (Nat.le_of_ble_eq_true rfl)) (Nat.le_of_ble_eq_true rfl) xs0 (s_X12_isPlace _ _ x2) (fun _ _ kk => ?_)
    obtain ⟨e4, e5⟩ := kk
    rw [e4, e5]
    refine aw_ifb_eq (tgt := 64) d_X12_draw_12 rfl (fun c6 => ?_) (fun c6 => ?_)
    · have k := k.1 c6
      refine aw_iconst (v := 0) d_X12_draw_64 ic_0 ?_
      exact aw_zret rfl rfl d_X12_draw_65 ⟨Nat.le_refl _, Nat.le_refl _⟩ ⟨_, rfl, k⟩
    · have k := k.2 c6
      refine aw_iload_n (i := 3) rfl d_X12_draw_15 3 rfl ?_
      refine aw_aload_n (i := 0) rfl d_X12_draw_16 0 rfl ?_
      refine aw_geti (k0 := 0) kc_12 (ws_1 w) (Nat.le_of_ble_eq_true rfl) tw_1742 d_X12_draw_17 rfl ?_
      refine aw_sipush (v := 30000) d_X12_draw_20 is_30000 ?_
      refine aw_Si [.int x3, .int (h_i h 1 0), .int 30000] [] d_X12_draw_23 (cS_X12_in (d + 0) 0 0) tw_2143 rfl (rr0 (Nat.le_of_ble_eq_true rfl) (Nat.le_of_ble_eq_true rfl)) (Nat.le_of_ble_eq_true rfl) xs0 (s_X12_in _ _ x3 (h_i h 1 0) 30000) (fun _ _ kk => ?_)
      obtain ⟨e7, e8⟩ := kk
      rw [e7, e8]
      refine aw_ifb_eq (tgt := 64) d_X12_draw_26 rfl (fun c9 => ?_) (fun c9 => ?_)
      · have k := k.1 c9
        refine aw_iconst (v := 0) d_X12_draw_64 ic_0 ?_
        exact aw_zret rfl rfl d_X12_draw_65 ⟨Nat.le_refl _, Nat.le_refl _⟩ ⟨_, rfl, k⟩
      · have k := k.2 c9
        refine aw_aload_n (i := 0) rfl d_X12_draw_29 0 rfl ?_
        refine aw_aload_n (i := 0) rfl d_X12_draw_30 0 rfl ?_
        refine aw_getr (k0 := 10) kc_12 (ws_1 w) (Nat.le_of_ble_eq_true rfl) tw_1752 d_X12_draw_31 rfl (wr_1_10 w) ?_
        refine aw_iload_n (i := 1) rfl d_X12_draw_34 1 rfl ?_
        obtain ⟨b10, k⟩ := k
        refine aw_iald (ws_206 w) b10 d_X12_draw_35 ?_
        refine aw_iload_n (i := 2) rfl d_X12_draw_36 2 rfl ?_
        refine aw_Vi 1 [.int (h_i h 206 x1.toNatClampNeg), .int x2] [] d_X12_draw_37 (cV_X12_walkOf (d + 0) 0 0) kc_12 (ws_1 w) tw_2150 rfl (rr0 (Nat.le_of_ble_eq_true rfl) (Nat.le_of_ble_eq_true rfl)) (Nat.le_of_ble_eq_true rfl) xs0 k (fun r13 h11 kk => ?_)
        obtain ⟨w12, k⟩ := kk
        refine aw_iconst (v := (-1)) d_X12_draw_40 ic_m1 ?_
        refine aw_icmp_eq (tgt := 64) d_X12_draw_41 rfl (fun c14 => ?_) (fun c14 => ?_)
        · have k := k.1 c14
          refine aw_iconst (v := 0) d_X12_draw_64 ic_0 ?_
          exact aw_zret rfl rfl d_X12_draw_65 ⟨Nat.le_refl _, Nat.le_refl _⟩ ⟨_, rfl, k⟩
        · have k := k.2 c14
          refine aw_aload_n (i := 0) rfl d_X12_draw_44 0 rfl ?_
          refine aw_getr (k0 := 12) kc_12 (ws_1 w12) (Nat.le_of_ble_eq_true rfl) tw_1754 d_X12_draw_45 rfl (wr_1_12 w12) ?_
          refine aw_iload_n (i := 1) rfl d_X12_draw_48 1 rfl ?_
          obtain ⟨b15, k⟩ := k
          refine aw_iald (ws_208 w12) b15 d_X12_draw_49 ?_
          refine aw_iconst (v := 3) d_X12_draw_50 ic_3 ?_
          refine aw_icmp_eq (tgt := 64) d_X12_draw_51 rfl (fun c16 => ?_) (fun c16 => ?_)
          · have k := k.1 c16
            refine aw_iconst (v := 0) d_X12_draw_64 ic_0 ?_
            exact aw_zret rfl rfl d_X12_draw_65 ⟨Nat.le_refl _, Nat.le_refl _⟩ ⟨_, rfl, k⟩
          · have k := k.2 c16
            refine aw_aload_n (i := 0) rfl d_X12_draw_54 0 rfl ?_
            refine aw_getr (k0 := 12) kc_12 (ws_1 w12) (Nat.le_of_ble_eq_true rfl) tw_1754 d_X12_draw_55 rfl (wr_1_12 w12) ?_
            refine aw_iload_n (i := 1) rfl d_X12_draw_58 1 rfl ?_
            obtain ⟨b17, k⟩ := k
            refine aw_iald (ws_208 w12) b17 d_X12_draw_59 ?_
            refine aw_iconst (v := 4) d_X12_draw_60 ic_4 ?_
            refine aw_icmp_ne (tgt := 66) d_X12_draw_61 rfl (fun c18 => ?_) (fun c18 => ?_)
            · have k := k.1 c18
              refine aw_aload_n (i := 0) rfl d_X12_draw_66 0 rfl ?_
              refine aw_getr (k0 := 12) kc_12 (ws_1 w12) (Nat.le_of_ble_eq_true rfl) tw_1754 d_X12_draw_67 rfl (wr_1_12 w12) ?_
              refine aw_iload_n (i := 1) rfl d_X12_draw_70 1 rfl ?_
              obtain ⟨b19, k⟩ := k
              refine aw_iald (ws_208 w12) b19 d_X12_draw_71 ?_
              refine aw_iconst (v := 1) d_X12_draw_72 ic_1 ?_
              refine aw_icmp_ne (tgt := 82) d_X12_draw_73 rfl (fun c20 => ?_) (fun c20 => ?_)
              · have k := k.1 c20
                refine aw_aload_n (i := 0) rfl d_X12_draw_82 0 rfl ?_
                refine aw_getr (k0 := 17) kc_12 (ws_1 w12) (Nat.le_of_ble_eq_true rfl) tw_1759 d_X12_draw_83 rfl (wr_1_17 w12) ?_
                refine aw_iload_n (i := 1) rfl d_X12_draw_86 1 rfl ?_
                refine aw_iconst (v := (-1)) d_X12_draw_87 ic_m1 ?_
                obtain ⟨b21, k⟩ := k
                refine aw_iast (ws_213 w12) b21 d_X12_draw_88 ?_
                refine aw_aload_n (i := 0) rfl d_X12_draw_89 0 rfl ?_
                refine aw_getr (k0 := 12) kc_12 (ws_1 w12) (Nat.le_of_ble_eq_true rfl) tw_1754 d_X12_draw_90 rfl (wr_1_12 w12) ?_
                refine aw_iload_n (i := 1) rfl d_X12_draw_93 1 rfl ?_
                refine aw_iconst (v := 3) d_X12_draw_94 ic_3 ?_
                obtain ⟨b22, k⟩ := k
                refine aw_iast (ws_208 w12) b22 d_X12_draw_95 ?_
                refine aw_aload_n (i := 0) rfl d_X12_draw_96 0 rfl ?_
                refine aw_getr (k0 := 22) kc_12 (ws_1 w12) (Nat.le_of_ble_eq_true rfl) tw_1764 d_X12_draw_97 rfl (wr_1_22 w12) ?_
                refine aw_iload_n (i := 1) rfl d_X12_draw_100 1 rfl ?_
                refine aw_iload_n (i := 2) rfl d_X12_draw_101 2 rfl ?_
                obtain ⟨b23, k⟩ := k
                refine aw_iast (ws_218 w12) b23 d_X12_draw_102 ?_
                refine aw_aload_n (i := 0) rfl d_X12_draw_103 0 rfl ?_
                refine aw_getr (k0 := 23) kc_12 (ws_1 w12) (Nat.le_of_ble_eq_true rfl) tw_1765 d_X12_draw_104 rfl (wr_1_23 w12) ?_
                refine aw_iload_n (i := 1) rfl d_X12_draw_107 1 rfl ?_
                refine aw_iload_n (i := 3) rfl d_X12_draw_108 3 rfl ?_
                obtain ⟨b24, k⟩ := k
                refine aw_iast (ws_219 w12) b24 d_X12_draw_109 ?_
                refine aw_aload_n (i := 0) rfl d_X12_draw_110 0 rfl ?_
                refine aw_getr (k0 := 65) kc_12 (ws_1 w12) (Nat.le_of_ble_eq_true rfl) tw_1807 d_X12_draw_111 rfl (wr_1_65 w12) ?_
                refine aw_iload_n (i := 1) rfl d_X12_draw_114 1 rfl ?_
                refine aw_aload_n (i := 0) rfl d_X12_draw_115 0 rfl ?_
                refine aw_getr (k0 := 14) kc_12 (ws_1 w12) (Nat.le_of_ble_eq_true rfl) tw_1756 d_X12_draw_116 rfl (wr_1_14 w12) ?_
                refine aw_iload_n (i := 1) rfl d_X12_draw_119 1 rfl ?_
                obtain ⟨b25, k⟩ := k
                refine aw_iald (ws_210 w12) b25 d_X12_draw_120 ?_
                refine aw_vi (v2 := (h_i h11 210 x1.toNatClampNeg)) (rfl) ?_
                refine aw_iconst (v := (-1)) d_X12_draw_121 ic_m1 ?_
                refine aw_icmp_ne (tgt := 129) d_X12_draw_122 rfl (fun c26 => ?_) (fun c26 => ?_)
                · have k := k.1 c26
                  refine aw_iconst (v := 0) d_X12_draw_129 ic_0 ?_
                  obtain ⟨b27, k⟩ := k
                  refine aw_zast (ws_248 w12) b27 d_X12_draw_130 ?_
                  refine aw_aload_n (i := 0) rfl d_X12_draw_131 0 rfl ?_
                  refine aw_getr (k0 := 14) kc_12 (ws_1 w12) (Nat.le_of_ble_eq_true rfl) tw_1756 d_X12_draw_132 rfl (wr_1_14 w12) ?_
                  refine aw_iload_n (i := 1) rfl d_X12_draw_135 1 rfl ?_
                  obtain ⟨b28, k⟩ := k
                  refine aw_iald (ws_210 w12) b28 d_X12_draw_136 ?_
                  refine aw_vi (v2 := (h_i h11 210 x1.toNatClampNeg)) (rfl) ?_
                  refine aw_iconst (v := (-1)) d_X12_draw_137 ic_m1 ?_
                  refine aw_icmp_ne (tgt := 146) d_X12_draw_138 rfl (fun c29 => ?_) (fun c29 => ?_)
                  · have k := k.1 c29
                    refine aw_iconst (v := 1) d_X12_draw_146 ic_1 ?_
                    exact aw_zret rfl rfl d_X12_draw_147 ⟨Nat.le_refl _, Nat.le_refl _⟩ ⟨_, rfl, k⟩
                  · have k := k.2 c29
                    refine aw_aload_n (i := 0) rfl d_X12_draw_141 0 rfl ?_
                    refine aw_iload_n (i := 1) rfl d_X12_draw_142 1 rfl ?_
                    refine aw_Vv 1 [.int x1] [] d_X12_draw_143 (cV_X12_goDrawn (d + 4) 0 0) kc_12 (ws_1 w12) tw_2368 rfl (rr0 (Nat.le_of_ble_eq_true rfl) (Nat.le_of_ble_eq_true rfl)) (Nat.le_of_ble_eq_true rfl) xs0 k (fun h30 kk => ?_)
                    obtain ⟨w31, k⟩ := kk
                    refine aw_iconst (v := 1) d_X12_draw_146 ic_1 ?_
                    exact aw_zret rfl rfl d_X12_draw_147 ⟨Nat.le_refl _, Nat.le_refl _⟩ ⟨_, rfl, k⟩
                · have k := k.2 c26
                  refine aw_iconst (v := 1) d_X12_draw_125 ic_1 ?_
                  refine aw_goto (tgt := 130) d_X12_draw_126 rfl ?_
                  obtain ⟨b33, k⟩ := k
                  refine aw_zast (ws_248 w12) b33 d_X12_draw_130 ?_
                  refine aw_aload_n (i := 0) rfl d_X12_draw_131 0 rfl ?_
                  refine aw_getr (k0 := 14) kc_12 (ws_1 w12) (Nat.le_of_ble_eq_true rfl) tw_1756 d_X12_draw_132 rfl (wr_1_14 w12) ?_
                  refine aw_iload_n (i := 1) rfl d_X12_draw_135 1 rfl ?_
                  obtain ⟨b34, k⟩ := k
                  refine aw_iald (ws_210 w12) b34 d_X12_draw_136 ?_
                  refine aw_vi (v2 := (h_i h11 210 x1.toNatClampNeg)) (rfl) ?_
                  refine aw_iconst (v := (-1)) d_X12_draw_137 ic_m1 ?_
                  refine aw_icmp_ne (tgt := 146) d_X12_draw_138 rfl (fun c35 => ?_) (fun c35 => ?_)
                  · have k := k.1 c35
                    refine aw_iconst (v := 1) d_X12_draw_146 ic_1 ?_
                    exact aw_zret rfl rfl d_X12_draw_147 ⟨Nat.le_refl _, Nat.le_refl _⟩ ⟨_, rfl, k⟩
                  · have k := k.2 c35
                    refine aw_aload_n (i := 0) rfl d_X12_draw_141 0 rfl ?_
                    refine aw_iload_n (i := 1) rfl d_X12_draw_142 1 rfl ?_
                    refine aw_Vv 1 [.int x1] [] d_X12_draw_143 (cV_X12_goDrawn (d + 4) 0 0) kc_12 (ws_1 w12) tw_2368 rfl (rr0 (Nat.le_of_ble_eq_true rfl) (Nat.le_of_ble_eq_true rfl)) (Nat.le_of_ble_eq_true rfl) xs0 k (fun h36 kk => ?_)
                    obtain ⟨w37, k⟩ := kk
                    refine aw_iconst (v := 1) d_X12_draw_146 ic_1 ?_
                    exact aw_zret rfl rfl d_X12_draw_147 ⟨Nat.le_refl _, Nat.le_refl _⟩ ⟨_, rfl, k⟩
              · have k := k.2 c20
                refine aw_aload_n (i := 0) rfl d_X12_draw_76 0 rfl ?_
                refine aw_iload_n (i := 1) rfl d_X12_draw_77 1 rfl ?_
                refine aw_iconst (v := 3) d_X12_draw_78 ic_3 ?_
                refine aw_Vv 1 [.int x1, .int 3] [] d_X12_draw_79 (cV_X12_drop (d + 1) 0 0) kc_12 (ws_1 w12) tw_2364 rfl (rr0 (Nat.le_of_ble_eq_true rfl) (Nat.le_of_ble_eq_true rfl)) (Nat.le_of_ble_eq_true rfl) xs0 k (fun h39 kk => ?_)
                obtain ⟨w40, k⟩ := kk
                refine aw_aload_n (i := 0) rfl d_X12_draw_82 0 rfl ?_
                refine aw_getr (k0 := 17) kc_12 (ws_1 w40) (Nat.le_of_ble_eq_true rfl) tw_1759 d_X12_draw_83 rfl (wr_1_17 w40) ?_
                refine aw_iload_n (i := 1) rfl d_X12_draw_86 1 rfl ?_
                refine aw_iconst (v := (-1)) d_X12_draw_87 ic_m1 ?_
                obtain ⟨b42, k⟩ := k
                refine aw_iast (ws_213 w40) b42 d_X12_draw_88 ?_
                refine aw_aload_n (i := 0) rfl d_X12_draw_89 0 rfl ?_
                refine aw_getr (k0 := 12) kc_12 (ws_1 w40) (Nat.le_of_ble_eq_true rfl) tw_1754 d_X12_draw_90 rfl (wr_1_12 w40) ?_
                refine aw_iload_n (i := 1) rfl d_X12_draw_93 1 rfl ?_
                refine aw_iconst (v := 3) d_X12_draw_94 ic_3 ?_
                obtain ⟨b43, k⟩ := k
                refine aw_iast (ws_208 w40) b43 d_X12_draw_95 ?_
                refine aw_aload_n (i := 0) rfl d_X12_draw_96 0 rfl ?_
                refine aw_getr (k0 := 22) kc_12 (ws_1 w40) (Nat.le_of_ble_eq_true rfl) tw_1764 d_X12_draw_97 rfl (wr_1_22 w40) ?_
                refine aw_iload_n (i := 1) rfl d_X12_draw_100 1 rfl ?_
                refine aw_iload_n (i := 2) rfl d_X12_draw_101 2 rfl ?_
                obtain ⟨b44, k⟩ := k
                refine aw_iast (ws_218 w40) b44 d_X12_draw_102 ?_
                refine aw_aload_n (i := 0) rfl d_X12_draw_103 0 rfl ?_
                refine aw_getr (k0 := 23) kc_12 (ws_1 w40) (Nat.le_of_ble_eq_true rfl) tw_1765 d_X12_draw_104 rfl (wr_1_23 w40) ?_
                refine aw_iload_n (i := 1) rfl d_X12_draw_107 1 rfl ?_
                refine aw_iload_n (i := 3) rfl d_X12_draw_108 3 rfl ?_
                obtain ⟨b45, k⟩ := k
                refine aw_iast (ws_219 w40) b45 d_X12_draw_109 ?_
                refine aw_aload_n (i := 0) rfl d_X12_draw_110 0 rfl ?_
                refine aw_getr (k0 := 65) kc_12 (ws_1 w40) (Nat.le_of_ble_eq_true rfl) tw_1807 d_X12_draw_111 rfl (wr_1_65 w40) ?_
                refine aw_iload_n (i := 1) rfl d_X12_draw_114 1 rfl ?_
                refine aw_aload_n (i := 0) rfl d_X12_draw_115 0 rfl ?_
                refine aw_getr (k0 := 14) kc_12 (ws_1 w40) (Nat.le_of_ble_eq_true rfl) tw_1756 d_X12_draw_116 rfl (wr_1_14 w40) ?_
                refine aw_iload_n (i := 1) rfl d_X12_draw_119 1 rfl ?_
                obtain ⟨b46, k⟩ := k
                refine aw_iald (ws_210 w40) b46 d_X12_draw_120 ?_
                refine aw_vi (v2 := (h_i h39 210 x1.toNatClampNeg)) (rfl) ?_
                refine aw_iconst (v := (-1)) d_X12_draw_121 ic_m1 ?_
                refine aw_icmp_ne (tgt := 129) d_X12_draw_122 rfl (fun c47 => ?_) (fun c47 => ?_)
                · have k := k.1 c47
                  refine aw_iconst (v := 0) d_X12_draw_129 ic_0 ?_
                  obtain ⟨b48, k⟩ := k
                  refine aw_zast (ws_248 w40) b48 d_X12_draw_130 ?_
                  refine aw_aload_n (i := 0) rfl d_X12_draw_131 0 rfl ?_
                  refine aw_getr (k0 := 14) kc_12 (ws_1 w40) (Nat.le_of_ble_eq_true rfl) tw_1756 d_X12_draw_132 rfl (wr_1_14 w40) ?_
                  refine aw_iload_n (i := 1) rfl d_X12_draw_135 1 rfl ?_
                  obtain ⟨b49, k⟩ := k
                  refine aw_iald (ws_210 w40) b49 d_X12_draw_136 ?_
                  refine aw_vi (v2 := (h_i h39 210 x1.toNatClampNeg)) (rfl) ?_
                  refine aw_iconst (v := (-1)) d_X12_draw_137 ic_m1 ?_
                  refine aw_icmp_ne (tgt := 146) d_X12_draw_138 rfl (fun c50 => ?_) (fun c50 => ?_)
                  · have k := k.1 c50
                    refine aw_iconst (v := 1) d_X12_draw_146 ic_1 ?_
                    exact aw_zret rfl rfl d_X12_draw_147 ⟨Nat.le_refl _, Nat.le_refl _⟩ ⟨_, rfl, k⟩
                  · have k := k.2 c50
                    refine aw_aload_n (i := 0) rfl d_X12_draw_141 0 rfl ?_
                    refine aw_iload_n (i := 1) rfl d_X12_draw_142 1 rfl ?_
                    refine aw_Vv 1 [.int x1] [] d_X12_draw_143 (cV_X12_goDrawn (d + 4) 0 0) kc_12 (ws_1 w40) tw_2368 rfl (rr0 (Nat.le_of_ble_eq_true rfl) (Nat.le_of_ble_eq_true rfl)) (Nat.le_of_ble_eq_true rfl) xs0 k (fun h51 kk => ?_)
                    obtain ⟨w52, k⟩ := kk
                    refine aw_iconst (v := 1) d_X12_draw_146 ic_1 ?_
                    exact aw_zret rfl rfl d_X12_draw_147 ⟨Nat.le_refl _, Nat.le_refl _⟩ ⟨_, rfl, k⟩
                · have k := k.2 c47
                  refine aw_iconst (v := 1) d_X12_draw_125 ic_1 ?_
                  refine aw_goto (tgt := 130) d_X12_draw_126 rfl ?_
                  obtain ⟨b54, k⟩ := k
                  refine aw_zast (ws_248 w40) b54 d_X12_draw_130 ?_
                  refine aw_aload_n (i := 0) rfl d_X12_draw_131 0 rfl ?_
                  refine aw_getr (k0 := 14) kc_12 (ws_1 w40) (Nat.le_of_ble_eq_true rfl) tw_1756 d_X12_draw_132 rfl (wr_1_14 w40) ?_
                  refine aw_iload_n (i := 1) rfl d_X12_draw_135 1 rfl ?_
                  obtain ⟨b55, k⟩ := k
                  refine aw_iald (ws_210 w40) b55 d_X12_draw_136 ?_
                  refine aw_vi (v2 := (h_i h39 210 x1.toNatClampNeg)) (rfl) ?_
                  refine aw_iconst (v := (-1)) d_X12_draw_137 ic_m1 ?_
                  refine aw_icmp_ne (tgt := 146) d_X12_draw_138 rfl (fun c56 => ?_) (fun c56 => ?_)
                  · have k := k.1 c56
                    refine aw_iconst (v := 1) d_X12_draw_146 ic_1 ?_
                    exact aw_zret rfl rfl d_X12_draw_147 ⟨Nat.le_refl _, Nat.le_refl _⟩ ⟨_, rfl, k⟩
                  · have k := k.2 c56
                    refine aw_aload_n (i := 0) rfl d_X12_draw_141 0 rfl ?_
                    refine aw_iload_n (i := 1) rfl d_X12_draw_142 1 rfl ?_
                    refine aw_Vv 1 [.int x1] [] d_X12_draw_143 (cV_X12_goDrawn (d + 4) 0 0) kc_12 (ws_1 w40) tw_2368 rfl (rr0 (Nat.le_of_ble_eq_true rfl) (Nat.le_of_ble_eq_true rfl)) (Nat.le_of_ble_eq_true rfl) xs0 k (fun h57 kk => ?_)
                    obtain ⟨w58, k⟩ := kk
                    refine aw_iconst (v := 1) d_X12_draw_146 ic_1 ?_
                    exact aw_zret rfl rfl d_X12_draw_147 ⟨Nat.le_refl _, Nat.le_refl _⟩ ⟨_, rfl, k⟩
            · have k := k.2 c18
              refine aw_iconst (v := 0) d_X12_draw_64 ic_0 ?_
              exact aw_zret rfl rfl d_X12_draw_65 ⟨Nat.le_refl _, Nat.le_refl _⟩ ⟨_, rfl, k⟩
theorem t_X12_ill (d : Nat) (h : Hp_) (w : Wf h) (x1 : Int32) (x2 : Int32) (K : Int32 → Hp_ → Prop) (k : (¬ (0 ≤ x1 ∧ x1 ≤ (h_i h 1 7) - 1) → K 0 h) ∧ ((0 ≤ x1 ∧ x1 ≤ (h_i h 1 7) - 1) → vp_in x1 12 ∧ ((¬ (h_i h 208 x1.toNatClampNeg) = 4 → (¬ 0 = x2 → (¬ x2 = 0 → vp_in x1 12 ∧ ((¬ (h_i h 208 x1.toNatClampNeg) = 1 → vp_in x1 12 ∧ (vp_in x1 12 ∧ (vp_in x1 12 ∧ (vp_in x1 12 ∧ (vp_in x1 12 ∧ (vp_in x1 12 ∧ (K 1 (h_im (h_im (h_im (h_im (h_im h 208 x1.toNatClampNeg 4) 209 x1.toNatClampNeg (h_i h 206 x1.toNatClampNeg)) 210 x1.toNatClampNeg (-1)) 211 x1.toNatClampNeg (-1)) 213 x1.toNatClampNeg (-1))))))))) ∧ ((h_i h 208 x1.toNatClampNeg) = 1 → Cv (m_X12_drop (d + 1) 0 0) [.ref 1, .int x1, .int 4] h (fun h16 => Wf h16 ∧ (vp_in x1 12 ∧ (vp_in x1 12 ∧ (vp_in x1 12 ∧ (vp_in x1 12 ∧ (vp_in x1 12 ∧ (vp_in x1 12 ∧ (K 1 (h_im (h_im (h_im (h_im (h_im h16 208 x1.toNatClampNeg 4) 209 x1.toNatClampNeg (h_i h16 206 x1.toNatClampNeg)) 210 x1.toNatClampNeg (-1)) 211 x1.toNatClampNeg (-1)) 213 x1.toNatClampNeg (-1))))))))))))) ∧ (x2 = 0 → Cv (m_X12_free (d + 0) 0 0) [.ref 1, .int x1] h (fun h25 => Wf h25 ∧ (K 1 h25)))) ∧ (0 = x2 → K 0 h)) ∧ ((h_i h 208 x1.toNatClampNeg) = 4 → (¬ 1 = x2 → (¬ x2 = 0 → vp_in x1 12 ∧ ((¬ (h_i h 208 x1.toNatClampNeg) = 1 → vp_in x1 12 ∧ (vp_in x1 12 ∧ (vp_in x1 12 ∧ (vp_in x1 12 ∧ (vp_in x1 12 ∧ (vp_in x1 12 ∧ (K 1 (h_im (h_im (h_im (h_im (h_im h 208 x1.toNatClampNeg 4) 209 x1.toNatClampNeg (h_i h 206 x1.toNatClampNeg)) 210 x1.toNatClampNeg (-1)) 211 x1.toNatClampNeg (-1)) 213 x1.toNatClampNeg (-1))))))))) ∧ ((h_i h 208 x1.toNatClampNeg) = 1 → Cv (m_X12_drop (d + 1) 0 0) [.ref 1, .int x1, .int 4] h (fun h38 => Wf h38 ∧ (vp_in x1 12 ∧ (vp_in x1 12 ∧ (vp_in x1 12 ∧ (vp_in x1 12 ∧ (vp_in x1 12 ∧ (vp_in x1 12 ∧ (K 1 (h_im (h_im (h_im (h_im (h_im h38 208 x1.toNatClampNeg 4) 209 x1.toNatClampNeg (h_i h38 206 x1.toNatClampNeg)) 210 x1.toNatClampNeg (-1)) 211 x1.toNatClampNeg (-1)) 213 x1.toNatClampNeg (-1))))))))))))) ∧ (x2 = 0 → Cv (m_X12_free (d + 0) 0 0) [.ref 1, .int x1] h (fun h47 => Wf h47 ∧ (K 1 h47)))) ∧ (1 = x2 → K 0 h))))) : Ci (m_X12_ill (d + 2) 0 0) [.ref 1, .int x1, .int x2] h K := by
  refine Ct.of (fun _ _ _ => trivial) rfl (Nat.le_of_ble_eq_true rfl) ?_
  show AW (m_X12_ill (d + 2) 0 0) 0 0 0 [(0, .ref 1), (1, .int x1), (2, .int x2)] [] h (kI K)
  refine aw_aload_n (i := 0) rfl d_X12_ill_0 0 rfl ?_
  refine aw_iload_n (i := 1) rfl d_X12_ill_1 1 rfl ?_
  refine aw_Vi 1 [.int x1] [] d_X12_ill_2 (cV_X12_isMan (d + 1) 0 0) kc_12 (ws_1 w) tw_2163 rfl (rr0 (Nat.le_of_ble_eq_true rfl) (Nat.le_of_ble_eq_true rfl)) (Nat.le_of_ble_eq_true rfl) xs0 (s_X12_isMan _ _ w x1) (fun _ _ kk => ?_)
  obtain ⟨e1, e2⟩ := kk
  rw [e1, e2]
  refine aw_ifb_eq (tgt := 27) d_X12_ill_5 rfl (fun c3 => ?_) (fun c3 => ?_)
  · have k := k.1 c3
    refine aw_iconst (v := 0) d_X12_ill_27 ic_0 ?_
    exact aw_zret rfl rfl d_X12_ill_28 ⟨Nat.le_refl _, Nat.le_refl _⟩ ⟨_, rfl, k⟩
  · have k := k.2 c3
    refine aw_aload_n (i := 0) rfl d_X12_ill_8 0 rfl ?_
    refine aw_getr (k0 := 12) kc_12 (ws_1 w) (Nat.le_of_ble_eq_true rfl) tw_1754 d_X12_ill_9 rfl (wr_1_12 w) ?_
    refine aw_iload_n (i := 1) rfl d_X12_ill_12 1 rfl ?_
    obtain ⟨b4, k⟩ := k
    refine aw_iald (ws_208 w) b4 d_X12_ill_13 ?_
    refine aw_iconst (v := 4) d_X12_ill_14 ic_4 ?_
    refine aw_icmp_ne (tgt := 22) d_X12_ill_15 rfl (fun c5 => ?_) (fun c5 => ?_)
    · have k := k.1 c5
      refine aw_iconst (v := 0) d_X12_ill_22 ic_0 ?_
      refine aw_iload_n (i := 2) rfl d_X12_ill_23 2 rfl ?_
      refine aw_icmp_ne (tgt := 29) d_X12_ill_24 rfl (fun c6 => ?_) (fun c6 => ?_)
      · have k := k.1 c6
        refine aw_iload_n (i := 2) rfl d_X12_ill_29 2 rfl ?_
        refine aw_if_ne (tgt := 40) d_X12_ill_30 rfl (fun c7 => ?_) (fun c7 => ?_)
        · have k := k.1 c7
          refine aw_aload_n (i := 0) rfl d_X12_ill_40 0 rfl ?_
          refine aw_getr (k0 := 12) kc_12 (ws_1 w) (Nat.le_of_ble_eq_true rfl) tw_1754 d_X12_ill_41 rfl (wr_1_12 w) ?_
          refine aw_iload_n (i := 1) rfl d_X12_ill_44 1 rfl ?_
          obtain ⟨b8, k⟩ := k
          refine aw_iald (ws_208 w) b8 d_X12_ill_45 ?_
          refine aw_iconst (v := 1) d_X12_ill_46 ic_1 ?_
          refine aw_icmp_ne (tgt := 56) d_X12_ill_47 rfl (fun c9 => ?_) (fun c9 => ?_)
          · have k := k.1 c9
            refine aw_aload_n (i := 0) rfl d_X12_ill_56 0 rfl ?_
            refine aw_getr (k0 := 12) kc_12 (ws_1 w) (Nat.le_of_ble_eq_true rfl) tw_1754 d_X12_ill_57 rfl (wr_1_12 w) ?_
            refine aw_iload_n (i := 1) rfl d_X12_ill_60 1 rfl ?_
            refine aw_iconst (v := 4) d_X12_ill_61 ic_4 ?_
            obtain ⟨b10, k⟩ := k
            refine aw_iast (ws_208 w) b10 d_X12_ill_62 ?_
            refine aw_aload_n (i := 0) rfl d_X12_ill_63 0 rfl ?_
            refine aw_getr (k0 := 13) kc_12 (ws_1 w) (Nat.le_of_ble_eq_true rfl) tw_1755 d_X12_ill_64 rfl (wr_1_13 w) ?_
            refine aw_iload_n (i := 1) rfl d_X12_ill_67 1 rfl ?_
            refine aw_aload_n (i := 0) rfl d_X12_ill_68 0 rfl ?_
            refine aw_getr (k0 := 10) kc_12 (ws_1 w) (Nat.le_of_ble_eq_true rfl) tw_1752 d_X12_ill_69 rfl (wr_1_10 w) ?_
            refine aw_iload_n (i := 1) rfl d_X12_ill_72 1 rfl ?_
            obtain ⟨b11, k⟩ := k
            refine aw_iald (ws_206 w) b11 d_X12_ill_73 ?_
            refine aw_vi (v2 := (h_i h 206 x1.toNatClampNeg)) (rfl) ?_
            obtain ⟨b12, k⟩ := k
            refine aw_iast (ws_209 w) b12 d_X12_ill_74 ?_
            refine aw_aload_n (i := 0) rfl d_X12_ill_75 0 rfl ?_
            refine aw_getr (k0 := 14) kc_12 (ws_1 w) (Nat.le_of_ble_eq_true rfl) tw_1756 d_X12_ill_76 rfl (wr_1_14 w) ?_
            refine aw_iload_n (i := 1) rfl d_X12_ill_79 1 rfl ?_
            refine aw_iconst (v := (-1)) d_X12_ill_80 ic_m1 ?_
            obtain ⟨b13, k⟩ := k
            refine aw_iast (ws_210 w) b13 d_X12_ill_81 ?_
            refine aw_aload_n (i := 0) rfl d_X12_ill_82 0 rfl ?_
            refine aw_getr (k0 := 15) kc_12 (ws_1 w) (Nat.le_of_ble_eq_true rfl) tw_1757 d_X12_ill_83 rfl (wr_1_15 w) ?_
            refine aw_iload_n (i := 1) rfl d_X12_ill_86 1 rfl ?_
            refine aw_iconst (v := (-1)) d_X12_ill_87 ic_m1 ?_
            obtain ⟨b14, k⟩ := k
            refine aw_iast (ws_211 w) b14 d_X12_ill_88 ?_
            refine aw_aload_n (i := 0) rfl d_X12_ill_89 0 rfl ?_
            refine aw_getr (k0 := 17) kc_12 (ws_1 w) (Nat.le_of_ble_eq_true rfl) tw_1759 d_X12_ill_90 rfl (wr_1_17 w) ?_
            refine aw_iload_n (i := 1) rfl d_X12_ill_93 1 rfl ?_
            refine aw_iconst (v := (-1)) d_X12_ill_94 ic_m1 ?_
            obtain ⟨b15, k⟩ := k
            refine aw_iast (ws_213 w) b15 d_X12_ill_95 ?_
            refine aw_iconst (v := 1) d_X12_ill_96 ic_1 ?_
            exact aw_zret rfl rfl d_X12_ill_97 ⟨Nat.le_refl _, Nat.le_refl _⟩ ⟨_, rfl, k⟩
          · have k := k.2 c9
            refine aw_aload_n (i := 0) rfl d_X12_ill_50 0 rfl ?_
            refine aw_iload_n (i := 1) rfl d_X12_ill_51 1 rfl ?_
            refine aw_iconst (v := 4) d_X12_ill_52 ic_4 ?_
            refine aw_Vv 1 [.int x1, .int 4] [] d_X12_ill_53 (cV_X12_drop (d + 1) 0 0) kc_12 (ws_1 w) tw_2364 rfl (rr0 (Nat.le_of_ble_eq_true rfl) (Nat.le_of_ble_eq_true rfl)) (Nat.le_of_ble_eq_true rfl) xs0 k (fun h16 kk => ?_)
            obtain ⟨w17, k⟩ := kk
            refine aw_aload_n (i := 0) rfl d_X12_ill_56 0 rfl ?_
            refine aw_getr (k0 := 12) kc_12 (ws_1 w17) (Nat.le_of_ble_eq_true rfl) tw_1754 d_X12_ill_57 rfl (wr_1_12 w17) ?_
            refine aw_iload_n (i := 1) rfl d_X12_ill_60 1 rfl ?_
            refine aw_iconst (v := 4) d_X12_ill_61 ic_4 ?_
            obtain ⟨b19, k⟩ := k
            refine aw_iast (ws_208 w17) b19 d_X12_ill_62 ?_
            refine aw_aload_n (i := 0) rfl d_X12_ill_63 0 rfl ?_
            refine aw_getr (k0 := 13) kc_12 (ws_1 w17) (Nat.le_of_ble_eq_true rfl) tw_1755 d_X12_ill_64 rfl (wr_1_13 w17) ?_
            refine aw_iload_n (i := 1) rfl d_X12_ill_67 1 rfl ?_
            refine aw_aload_n (i := 0) rfl d_X12_ill_68 0 rfl ?_
            refine aw_getr (k0 := 10) kc_12 (ws_1 w17) (Nat.le_of_ble_eq_true rfl) tw_1752 d_X12_ill_69 rfl (wr_1_10 w17) ?_
            refine aw_iload_n (i := 1) rfl d_X12_ill_72 1 rfl ?_
            obtain ⟨b20, k⟩ := k
            refine aw_iald (ws_206 w17) b20 d_X12_ill_73 ?_
            refine aw_vi (v2 := (h_i h16 206 x1.toNatClampNeg)) (rfl) ?_
            obtain ⟨b21, k⟩ := k
            refine aw_iast (ws_209 w17) b21 d_X12_ill_74 ?_
            refine aw_aload_n (i := 0) rfl d_X12_ill_75 0 rfl ?_
            refine aw_getr (k0 := 14) kc_12 (ws_1 w17) (Nat.le_of_ble_eq_true rfl) tw_1756 d_X12_ill_76 rfl (wr_1_14 w17) ?_
            refine aw_iload_n (i := 1) rfl d_X12_ill_79 1 rfl ?_
            refine aw_iconst (v := (-1)) d_X12_ill_80 ic_m1 ?_
            obtain ⟨b22, k⟩ := k
            refine aw_iast (ws_210 w17) b22 d_X12_ill_81 ?_
            refine aw_aload_n (i := 0) rfl d_X12_ill_82 0 rfl ?_
            refine aw_getr (k0 := 15) kc_12 (ws_1 w17) (Nat.le_of_ble_eq_true rfl) tw_1757 d_X12_ill_83 rfl (wr_1_15 w17) ?_
            refine aw_iload_n (i := 1) rfl d_X12_ill_86 1 rfl ?_
            refine aw_iconst (v := (-1)) d_X12_ill_87 ic_m1 ?_
            obtain ⟨b23, k⟩ := k
            refine aw_iast (ws_211 w17) b23 d_X12_ill_88 ?_
            refine aw_aload_n (i := 0) rfl d_X12_ill_89 0 rfl ?_
            refine aw_getr (k0 := 17) kc_12 (ws_1 w17) (Nat.le_of_ble_eq_true rfl) tw_1759 d_X12_ill_90 rfl (wr_1_17 w17) ?_
            refine aw_iload_n (i := 1) rfl d_X12_ill_93 1 rfl ?_
            refine aw_iconst (v := (-1)) d_X12_ill_94 ic_m1 ?_
            obtain ⟨b24, k⟩ := k
            refine aw_iast (ws_213 w17) b24 d_X12_ill_95 ?_
            refine aw_iconst (v := 1) d_X12_ill_96 ic_1 ?_
            exact aw_zret rfl rfl d_X12_ill_97 ⟨Nat.le_refl _, Nat.le_refl _⟩ ⟨_, rfl, k⟩
        · have k := k.2 c7
          refine aw_aload_n (i := 0) rfl d_X12_ill_33 0 rfl ?_
          refine aw_iload_n (i := 1) rfl d_X12_ill_34 1 rfl ?_
          refine aw_Vv 1 [.int x1] [] d_X12_ill_35 (cV_X12_free (d + 0) 0 0) kc_12 (ws_1 w) tw_2344 rfl (rr0 (Nat.le_of_ble_eq_true rfl) (Nat.le_of_ble_eq_true rfl)) (Nat.le_of_ble_eq_true rfl) xs0 k (fun h25 kk => ?_)
          obtain ⟨w26, k⟩ := kk
          refine aw_iconst (v := 1) d_X12_ill_38 ic_1 ?_
          exact aw_zret rfl rfl d_X12_ill_39 ⟨Nat.le_refl _, Nat.le_refl _⟩ ⟨_, rfl, k⟩
      · have k := k.2 c6
        refine aw_iconst (v := 0) d_X12_ill_27 ic_0 ?_
        exact aw_zret rfl rfl d_X12_ill_28 ⟨Nat.le_refl _, Nat.le_refl _⟩ ⟨_, rfl, k⟩
    · have k := k.2 c5
      refine aw_iconst (v := 1) d_X12_ill_18 ic_1 ?_
      refine aw_goto (tgt := 23) d_X12_ill_19 rfl ?_
      refine aw_iload_n (i := 2) rfl d_X12_ill_23 2 rfl ?_
      refine aw_icmp_ne (tgt := 29) d_X12_ill_24 rfl (fun c28 => ?_) (fun c28 => ?_)
      · have k := k.1 c28
        refine aw_iload_n (i := 2) rfl d_X12_ill_29 2 rfl ?_
        refine aw_if_ne (tgt := 40) d_X12_ill_30 rfl (fun c29 => ?_) (fun c29 => ?_)
        · have k := k.1 c29
          refine aw_aload_n (i := 0) rfl d_X12_ill_40 0 rfl ?_
          refine aw_getr (k0 := 12) kc_12 (ws_1 w) (Nat.le_of_ble_eq_true rfl) tw_1754 d_X12_ill_41 rfl (wr_1_12 w) ?_
          refine aw_iload_n (i := 1) rfl d_X12_ill_44 1 rfl ?_
          obtain ⟨b30, k⟩ := k
          refine aw_iald (ws_208 w) b30 d_X12_ill_45 ?_
          refine aw_iconst (v := 1) d_X12_ill_46 ic_1 ?_
          refine aw_icmp_ne (tgt := 56) d_X12_ill_47 rfl (fun c31 => ?_) (fun c31 => ?_)
          · have k := k.1 c31
            refine aw_aload_n (i := 0) rfl d_X12_ill_56 0 rfl ?_
            refine aw_getr (k0 := 12) kc_12 (ws_1 w) (Nat.le_of_ble_eq_true rfl) tw_1754 d_X12_ill_57 rfl (wr_1_12 w) ?_
            refine aw_iload_n (i := 1) rfl d_X12_ill_60 1 rfl ?_
            refine aw_iconst (v := 4) d_X12_ill_61 ic_4 ?_
            obtain ⟨b32, k⟩ := k
            refine aw_iast (ws_208 w) b32 d_X12_ill_62 ?_
            refine aw_aload_n (i := 0) rfl d_X12_ill_63 0 rfl ?_
            refine aw_getr (k0 := 13) kc_12 (ws_1 w) (Nat.le_of_ble_eq_true rfl) tw_1755 d_X12_ill_64 rfl (wr_1_13 w) ?_
            refine aw_iload_n (i := 1) rfl d_X12_ill_67 1 rfl ?_
            refine aw_aload_n (i := 0) rfl d_X12_ill_68 0 rfl ?_
            refine aw_getr (k0 := 10) kc_12 (ws_1 w) (Nat.le_of_ble_eq_true rfl) tw_1752 d_X12_ill_69 rfl (wr_1_10 w) ?_
            refine aw_iload_n (i := 1) rfl d_X12_ill_72 1 rfl ?_
            obtain ⟨b33, k⟩ := k
            refine aw_iald (ws_206 w) b33 d_X12_ill_73 ?_
            refine aw_vi (v2 := (h_i h 206 x1.toNatClampNeg)) (rfl) ?_
            obtain ⟨b34, k⟩ := k
            refine aw_iast (ws_209 w) b34 d_X12_ill_74 ?_
            refine aw_aload_n (i := 0) rfl d_X12_ill_75 0 rfl ?_
            refine aw_getr (k0 := 14) kc_12 (ws_1 w) (Nat.le_of_ble_eq_true rfl) tw_1756 d_X12_ill_76 rfl (wr_1_14 w) ?_
            refine aw_iload_n (i := 1) rfl d_X12_ill_79 1 rfl ?_
            refine aw_iconst (v := (-1)) d_X12_ill_80 ic_m1 ?_
            obtain ⟨b35, k⟩ := k
            refine aw_iast (ws_210 w) b35 d_X12_ill_81 ?_
            refine aw_aload_n (i := 0) rfl d_X12_ill_82 0 rfl ?_
            refine aw_getr (k0 := 15) kc_12 (ws_1 w) (Nat.le_of_ble_eq_true rfl) tw_1757 d_X12_ill_83 rfl (wr_1_15 w) ?_
            refine aw_iload_n (i := 1) rfl d_X12_ill_86 1 rfl ?_
            refine aw_iconst (v := (-1)) d_X12_ill_87 ic_m1 ?_
            obtain ⟨b36, k⟩ := k
            refine aw_iast (ws_211 w) b36 d_X12_ill_88 ?_
            refine aw_aload_n (i := 0) rfl d_X12_ill_89 0 rfl ?_
            refine aw_getr (k0 := 17) kc_12 (ws_1 w) (Nat.le_of_ble_eq_true rfl) tw_1759 d_X12_ill_90 rfl (wr_1_17 w) ?_
            refine aw_iload_n (i := 1) rfl d_X12_ill_93 1 rfl ?_
            refine aw_iconst (v := (-1)) d_X12_ill_94 ic_m1 ?_
            obtain ⟨b37, k⟩ := k
            refine aw_iast (ws_213 w) b37 d_X12_ill_95 ?_
            refine aw_iconst (v := 1) d_X12_ill_96 ic_1 ?_
            exact aw_zret rfl rfl d_X12_ill_97 ⟨Nat.le_refl _, Nat.le_refl _⟩ ⟨_, rfl, k⟩
          · have k := k.2 c31
            refine aw_aload_n (i := 0) rfl d_X12_ill_50 0 rfl ?_
            refine aw_iload_n (i := 1) rfl d_X12_ill_51 1 rfl ?_
            refine aw_iconst (v := 4) d_X12_ill_52 ic_4 ?_
            refine aw_Vv 1 [.int x1, .int 4] [] d_X12_ill_53 (cV_X12_drop (d + 1) 0 0) kc_12 (ws_1 w) tw_2364 rfl (rr0 (Nat.le_of_ble_eq_true rfl) (Nat.le_of_ble_eq_true rfl)) (Nat.le_of_ble_eq_true rfl) xs0 k (fun h38 kk => ?_)
            obtain ⟨w39, k⟩ := kk
            refine aw_aload_n (i := 0) rfl d_X12_ill_56 0 rfl ?_
            refine aw_getr (k0 := 12) kc_12 (ws_1 w39) (Nat.le_of_ble_eq_true rfl) tw_1754 d_X12_ill_57 rfl (wr_1_12 w39) ?_
            refine aw_iload_n (i := 1) rfl d_X12_ill_60 1 rfl ?_
            refine aw_iconst (v := 4) d_X12_ill_61 ic_4 ?_
            obtain ⟨b41, k⟩ := k
            refine aw_iast (ws_208 w39) b41 d_X12_ill_62 ?_
            refine aw_aload_n (i := 0) rfl d_X12_ill_63 0 rfl ?_
            refine aw_getr (k0 := 13) kc_12 (ws_1 w39) (Nat.le_of_ble_eq_true rfl) tw_1755 d_X12_ill_64 rfl (wr_1_13 w39) ?_
            refine aw_iload_n (i := 1) rfl d_X12_ill_67 1 rfl ?_
            refine aw_aload_n (i := 0) rfl d_X12_ill_68 0 rfl ?_
            refine aw_getr (k0 := 10) kc_12 (ws_1 w39) (Nat.le_of_ble_eq_true rfl) tw_1752 d_X12_ill_69 rfl (wr_1_10 w39) ?_
            refine aw_iload_n (i := 1) rfl d_X12_ill_72 1 rfl ?_
            obtain ⟨b42, k⟩ := k
            refine aw_iald (ws_206 w39) b42 d_X12_ill_73 ?_
            refine aw_vi (v2 := (h_i h38 206 x1.toNatClampNeg)) (rfl) ?_
            obtain ⟨b43, k⟩ := k
            refine aw_iast (ws_209 w39) b43 d_X12_ill_74 ?_
            refine aw_aload_n (i := 0) rfl d_X12_ill_75 0 rfl ?_
            refine aw_getr (k0 := 14) kc_12 (ws_1 w39) (Nat.le_of_ble_eq_true rfl) tw_1756 d_X12_ill_76 rfl (wr_1_14 w39) ?_
            refine aw_iload_n (i := 1) rfl d_X12_ill_79 1 rfl ?_
            refine aw_iconst (v := (-1)) d_X12_ill_80 ic_m1 ?_
            obtain ⟨b44, k⟩ := k
            refine aw_iast (ws_210 w39) b44 d_X12_ill_81 ?_
            refine aw_aload_n (i := 0) rfl d_X12_ill_82 0 rfl ?_
            refine aw_getr (k0 := 15) kc_12 (ws_1 w39) (Nat.le_of_ble_eq_true rfl) tw_1757 d_X12_ill_83 rfl (wr_1_15 w39) ?_
            refine aw_iload_n (i := 1) rfl d_X12_ill_86 1 rfl ?_
            refine aw_iconst (v := (-1)) d_X12_ill_87 ic_m1 ?_
            obtain ⟨b45, k⟩ := k
            refine aw_iast (ws_211 w39) b45 d_X12_ill_88 ?_
            refine aw_aload_n (i := 0) rfl d_X12_ill_89 0 rfl ?_
            refine aw_getr (k0 := 17) kc_12 (ws_1 w39) (Nat.le_of_ble_eq_true rfl) tw_1759 d_X12_ill_90 rfl (wr_1_17 w39) ?_
            refine aw_iload_n (i := 1) rfl d_X12_ill_93 1 rfl ?_
            refine aw_iconst (v := (-1)) d_X12_ill_94 ic_m1 ?_
            obtain ⟨b46, k⟩ := k
            refine aw_iast (ws_213 w39) b46 d_X12_ill_95 ?_
            refine aw_iconst (v := 1) d_X12_ill_96 ic_1 ?_
            exact aw_zret rfl rfl d_X12_ill_97 ⟨Nat.le_refl _, Nat.le_refl _⟩ ⟨_, rfl, k⟩
        · have k := k.2 c29
          refine aw_aload_n (i := 0) rfl d_X12_ill_33 0 rfl ?_
          refine aw_iload_n (i := 1) rfl d_X12_ill_34 1 rfl ?_
          refine aw_Vv 1 [.int x1] [] d_X12_ill_35 (cV_X12_free (d + 0) 0 0) kc_12 (ws_1 w) tw_2344 rfl (rr0 (Nat.le_of_ble_eq_true rfl) (Nat.le_of_ble_eq_true rfl)) (Nat.le_of_ble_eq_true rfl) xs0 k (fun h47 kk => ?_)
          obtain ⟨w48, k⟩ := kk
          refine aw_iconst (v := 1) d_X12_ill_38 ic_1 ?_
          exact aw_zret rfl rfl d_X12_ill_39 ⟨Nat.le_refl _, Nat.le_refl _⟩ ⟨_, rfl, k⟩
      · have k := k.2 c28
        refine aw_iconst (v := 0) d_X12_ill_27 ic_0 ?_
        exact aw_zret rfl rfl d_X12_ill_28 ⟨Nat.le_refl _, Nat.le_refl _⟩ ⟨_, rfl, k⟩
theorem t_X12_constable (d : Nat) (h : Hp_) (w : Wf h) (x1 : Int32) (x2 : Int32) (x3 : Int32) (K : Int32 → Hp_ → Prop) (k : (¬ (1 ≤ x1 ∧ x1 ≤ 4) → K (-1) h) ∧ ((1 ≤ x1 ∧ x1 ≤ 4) → (¬ (0 ≤ x2 ∧ x2 ≤ 40) → K (-1) h) ∧ ((0 ≤ x2 ∧ x2 ≤ 40) → (¬ (0 ≤ x3 ∧ x3 ≤ 15) → K (-1) h) ∧ ((0 ≤ x3 ∧ x3 ≤ 15) → (¬ (h_i h 1 7) = 12 → vp_in (h_i h 1 7) 12 ∧ (vp_in (h_i h 1 7) 12 ∧ (vp_in (h_i h 1 7) 12 ∧ (vp_in (h_i h 1 7) 12 ∧ (vp_in (h_i h 1 7) 12 ∧ (vp_in (h_i h 1 7) 12 ∧ (vp_in (h_i h 1 7) 12 ∧ (vp_in (h_i h 1 7) 12 ∧ (vp_in (h_i h 1 7) 12 ∧ (vp_in (h_i h 1 7) 12 ∧ (vp_in (h_i h 1 7) 12 ∧ (vp_in (h_i h 1 7) 12 ∧ (K (((h_i h 1 7) + 1) - 1) (h_im (h_im (h_im (h_im (h_im (h_im (h_im (h_im (h_im (h_im (h_im (h_im (h_im h 204 ((h_i h 1 7) : Int32).toNatClampNeg x1) 205 ((h_i h 1 7) : Int32).toNatClampNeg x2) 206 ((h_i h 1 7) : Int32).toNatClampNeg x3) 207 ((h_i h 1 7) : Int32).toNatClampNeg (h_i h 1 0)) 208 ((h_i h 1 7) : Int32).toNatClampNeg 0) 209 ((h_i h 1 7) : Int32).toNatClampNeg x3) 210 ((h_i h 1 7) : Int32).toNatClampNeg (-1)) 211 ((h_i h 1 7) : Int32).toNatClampNeg (-1)) 213 ((h_i h 1 7) : Int32).toNatClampNeg (-1)) 215 ((h_i h 1 7) : Int32).toNatClampNeg 0) 216 ((h_i h 1 7) : Int32).toNatClampNeg 0) 217 ((h_i h 1 7) : Int32).toNatClampNeg 0) 1 7 ((h_i h 1 7) + 1))))))))))))))) ∧ ((h_i h 1 7) = 12 → K (-1) h))))) : Ci (m_X12_constable (d + 2) 0 0) [.ref 1, .int x1, .int x2, .int x3] h K := by
  refine Ct.of (fun _ _ _ => trivial) rfl (Nat.le_of_ble_eq_true rfl) ?_
  show AW (m_X12_constable (d + 2) 0 0) 0 0 0 [(0, .ref 1), (1, .int x1), (2, .int x2), (3, .int x3)] [] h (kI K)
  refine aw_iload_n (i := 1) rfl d_X12_constable_0 1 rfl ?_
  refine aw_iconst (v := 1) d_X12_constable_1 ic_1 ?_
  refine aw_iconst (v := 4) d_X12_constable_2 ic_4 ?_
  refine aw_Si [.int x1, .int 1, .int 4] [] d_X12_constable_3 (cS_X12_in (d + 0) 0 0) tw_2143 rfl (rr0 (Nat.le_of_ble_eq_true rfl) (Nat.le_of_ble_eq_true rfl)) (Nat.le_of_ble_eq_true rfl) xs0 (s_X12_in _ _ x1 1 4) (fun _ _ kk => ?_)
  obtain ⟨e1, e2⟩ := kk
  rw [e1, e2]
  refine aw_ifb_eq (tgt := 35) d_X12_constable_6 rfl (fun c3 => ?_) (fun c3 => ?_)
  · have k := k.1 c3
    refine aw_iconst (v := (-1)) d_X12_constable_35 ic_m1 ?_
    exact aw_iret rfl d_X12_constable_36 ⟨Nat.le_refl _, Nat.le_refl _⟩ ⟨_, rfl, k⟩
  · have k := k.2 c3
    refine aw_iload_n (i := 2) rfl d_X12_constable_9 2 rfl ?_
    refine aw_iconst (v := 0) d_X12_constable_10 ic_0 ?_
    refine aw_bipush (v := 40) d_X12_constable_11 ib_40 ?_
    refine aw_Si [.int x2, .int 0, .int 40] [] d_X12_constable_13 (cS_X12_in (d + 0) 0 0) tw_2143 rfl (rr0 (Nat.le_of_ble_eq_true rfl) (Nat.le_of_ble_eq_true rfl)) (Nat.le_of_ble_eq_true rfl) xs0 (s_X12_in _ _ x2 0 40) (fun _ _ kk => ?_)
    obtain ⟨e4, e5⟩ := kk
    rw [e4, e5]
    refine aw_ifb_eq (tgt := 35) d_X12_constable_16 rfl (fun c6 => ?_) (fun c6 => ?_)
    · have k := k.1 c6
      refine aw_iconst (v := (-1)) d_X12_constable_35 ic_m1 ?_
      exact aw_iret rfl d_X12_constable_36 ⟨Nat.le_refl _, Nat.le_refl _⟩ ⟨_, rfl, k⟩
    · have k := k.2 c6
      refine aw_iload_n (i := 3) rfl d_X12_constable_19 3 rfl ?_
      refine aw_Si [.int x3] [] d_X12_constable_20 (cS_X12_isPlace (d + 1) 0 0) tw_2140 rfl (rr0 (Nat.le_of_ble_eq_true rfl) (Nat.le_of_ble_eq_true rfl)) (Nat.le_of_ble_eq_true rfl) xs0 (s_X12_isPlace _ _ x3) (fun _ _ kk => ?_)
      obtain ⟨e7, e8⟩ := kk
      rw [e7, e8]
      refine aw_ifb_eq (tgt := 35) d_X12_constable_23 rfl (fun c9 => ?_) (fun c9 => ?_)
      · have k := k.1 c9
        refine aw_iconst (v := (-1)) d_X12_constable_35 ic_m1 ?_
        exact aw_iret rfl d_X12_constable_36 ⟨Nat.le_refl _, Nat.le_refl _⟩ ⟨_, rfl, k⟩
      · have k := k.2 c9
        refine aw_aload_n (i := 0) rfl d_X12_constable_26 0 rfl ?_
        refine aw_geti (k0 := 7) kc_12 (ws_1 w) (Nat.le_of_ble_eq_true rfl) tw_1749 d_X12_constable_27 rfl ?_
        refine aw_bipush (v := 12) d_X12_constable_30 ib_12 ?_
        refine aw_icmp_ne (tgt := 37) d_X12_constable_32 rfl (fun c10 => ?_) (fun c10 => ?_)
        · have k := k.1 c10
          refine aw_aload_n (i := 0) rfl d_X12_constable_37 0 rfl ?_
          refine aw_getr (k0 := 8) kc_12 (ws_1 w) (Nat.le_of_ble_eq_true rfl) tw_1750 d_X12_constable_38 rfl (wr_1_8 w) ?_
          refine aw_aload_n (i := 0) rfl d_X12_constable_41 0 rfl ?_
          refine aw_geti (k0 := 7) kc_12 (ws_1 w) (Nat.le_of_ble_eq_true rfl) tw_1749 d_X12_constable_42 rfl ?_
          refine aw_iload_n (i := 1) rfl d_X12_constable_45 1 rfl ?_
          obtain ⟨b11, k⟩ := k
          refine aw_iast (ws_204 w) b11 d_X12_constable_46 ?_
          refine aw_aload_n (i := 0) rfl d_X12_constable_47 0 rfl ?_
          refine aw_getr (k0 := 9) kc_12 (ws_1 w) (Nat.le_of_ble_eq_true rfl) tw_1751 d_X12_constable_48 rfl (wr_1_9 w) ?_
          refine aw_aload_n (i := 0) rfl d_X12_constable_51 0 rfl ?_
          refine aw_geti (k0 := 7) kc_12 (ws_1 w) (Nat.le_of_ble_eq_true rfl) tw_1749 d_X12_constable_52 rfl ?_
          refine aw_vi (v2 := (h_i h 1 7)) (rfl) ?_
          refine aw_iload_n (i := 2) rfl d_X12_constable_55 2 rfl ?_
          obtain ⟨b12, k⟩ := k
          refine aw_iast (ws_205 w) b12 d_X12_constable_56 ?_
          refine aw_aload_n (i := 0) rfl d_X12_constable_57 0 rfl ?_
          refine aw_getr (k0 := 10) kc_12 (ws_1 w) (Nat.le_of_ble_eq_true rfl) tw_1752 d_X12_constable_58 rfl (wr_1_10 w) ?_
          refine aw_aload_n (i := 0) rfl d_X12_constable_61 0 rfl ?_
          refine aw_geti (k0 := 7) kc_12 (ws_1 w) (Nat.le_of_ble_eq_true rfl) tw_1749 d_X12_constable_62 rfl ?_
          refine aw_vi (v2 := (h_i h 1 7)) (rfl) ?_
          refine aw_iload_n (i := 3) rfl d_X12_constable_65 3 rfl ?_
          obtain ⟨b13, k⟩ := k
          refine aw_iast (ws_206 w) b13 d_X12_constable_66 ?_
          refine aw_aload_n (i := 0) rfl d_X12_constable_67 0 rfl ?_
          refine aw_getr (k0 := 11) kc_12 (ws_1 w) (Nat.le_of_ble_eq_true rfl) tw_1753 d_X12_constable_68 rfl (wr_1_11 w) ?_
          refine aw_aload_n (i := 0) rfl d_X12_constable_71 0 rfl ?_
          refine aw_geti (k0 := 7) kc_12 (ws_1 w) (Nat.le_of_ble_eq_true rfl) tw_1749 d_X12_constable_72 rfl ?_
          refine aw_vi (v2 := (h_i h 1 7)) (rfl) ?_
          refine aw_aload_n (i := 0) rfl d_X12_constable_75 0 rfl ?_
          refine aw_geti (k0 := 0) kc_12 (ws_1 w) (Nat.le_of_ble_eq_true rfl) tw_1742 d_X12_constable_76 rfl ?_
          refine aw_vi (v2 := (h_i h 1 0)) (rfl) ?_
          obtain ⟨b14, k⟩ := k
          refine aw_iast (ws_207 w) b14 d_X12_constable_79 ?_
          refine aw_aload_n (i := 0) rfl d_X12_constable_80 0 rfl ?_
          refine aw_getr (k0 := 12) kc_12 (ws_1 w) (Nat.le_of_ble_eq_true rfl) tw_1754 d_X12_constable_81 rfl (wr_1_12 w) ?_
          refine aw_aload_n (i := 0) rfl d_X12_constable_84 0 rfl ?_
          refine aw_geti (k0 := 7) kc_12 (ws_1 w) (Nat.le_of_ble_eq_true rfl) tw_1749 d_X12_constable_85 rfl ?_
          refine aw_vi (v2 := (h_i h 1 7)) (rfl) ?_
          refine aw_iconst (v := 0) d_X12_constable_88 ic_0 ?_
          obtain ⟨b15, k⟩ := k
          refine aw_iast (ws_208 w) b15 d_X12_constable_89 ?_
          refine aw_aload_n (i := 0) rfl d_X12_constable_90 0 rfl ?_
          refine aw_getr (k0 := 13) kc_12 (ws_1 w) (Nat.le_of_ble_eq_true rfl) tw_1755 d_X12_constable_91 rfl (wr_1_13 w) ?_
          refine aw_aload_n (i := 0) rfl d_X12_constable_94 0 rfl ?_
          refine aw_geti (k0 := 7) kc_12 (ws_1 w) (Nat.le_of_ble_eq_true rfl) tw_1749 d_X12_constable_95 rfl ?_
          refine aw_vi (v2 := (h_i h 1 7)) (rfl) ?_
          refine aw_iload_n (i := 3) rfl d_X12_constable_98 3 rfl ?_
          obtain ⟨b16, k⟩ := k
          refine aw_iast (ws_209 w) b16 d_X12_constable_99 ?_
          refine aw_aload_n (i := 0) rfl d_X12_constable_100 0 rfl ?_
          refine aw_getr (k0 := 14) kc_12 (ws_1 w) (Nat.le_of_ble_eq_true rfl) tw_1756 d_X12_constable_101 rfl (wr_1_14 w) ?_
          refine aw_aload_n (i := 0) rfl d_X12_constable_104 0 rfl ?_
          refine aw_geti (k0 := 7) kc_12 (ws_1 w) (Nat.le_of_ble_eq_true rfl) tw_1749 d_X12_constable_105 rfl ?_
          refine aw_vi (v2 := (h_i h 1 7)) (rfl) ?_
          refine aw_iconst (v := (-1)) d_X12_constable_108 ic_m1 ?_
          obtain ⟨b17, k⟩ := k
          refine aw_iast (ws_210 w) b17 d_X12_constable_109 ?_
          refine aw_aload_n (i := 0) rfl d_X12_constable_110 0 rfl ?_
          refine aw_getr (k0 := 15) kc_12 (ws_1 w) (Nat.le_of_ble_eq_true rfl) tw_1757 d_X12_constable_111 rfl (wr_1_15 w) ?_
          refine aw_aload_n (i := 0) rfl d_X12_constable_114 0 rfl ?_
          refine aw_geti (k0 := 7) kc_12 (ws_1 w) (Nat.le_of_ble_eq_true rfl) tw_1749 d_X12_constable_115 rfl ?_
          refine aw_vi (v2 := (h_i h 1 7)) (rfl) ?_
          refine aw_iconst (v := (-1)) d_X12_constable_118 ic_m1 ?_
          obtain ⟨b18, k⟩ := k
          refine aw_iast (ws_211 w) b18 d_X12_constable_119 ?_
          refine aw_aload_n (i := 0) rfl d_X12_constable_120 0 rfl ?_
          refine aw_getr (k0 := 17) kc_12 (ws_1 w) (Nat.le_of_ble_eq_true rfl) tw_1759 d_X12_constable_121 rfl (wr_1_17 w) ?_
          refine aw_aload_n (i := 0) rfl d_X12_constable_124 0 rfl ?_
          refine aw_geti (k0 := 7) kc_12 (ws_1 w) (Nat.le_of_ble_eq_true rfl) tw_1749 d_X12_constable_125 rfl ?_
          refine aw_vi (v2 := (h_i h 1 7)) (rfl) ?_
          refine aw_iconst (v := (-1)) d_X12_constable_128 ic_m1 ?_
          obtain ⟨b19, k⟩ := k
          refine aw_iast (ws_213 w) b19 d_X12_constable_129 ?_
          refine aw_aload_n (i := 0) rfl d_X12_constable_130 0 rfl ?_
          refine aw_getr (k0 := 19) kc_12 (ws_1 w) (Nat.le_of_ble_eq_true rfl) tw_1761 d_X12_constable_131 rfl (wr_1_19 w) ?_
          refine aw_aload_n (i := 0) rfl d_X12_constable_134 0 rfl ?_
          refine aw_geti (k0 := 7) kc_12 (ws_1 w) (Nat.le_of_ble_eq_true rfl) tw_1749 d_X12_constable_135 rfl ?_
          refine aw_vi (v2 := (h_i h 1 7)) (rfl) ?_
          refine aw_iconst (v := 0) d_X12_constable_138 ic_0 ?_
          obtain ⟨b20, k⟩ := k
          refine aw_iast (ws_215 w) b20 d_X12_constable_139 ?_
          refine aw_aload_n (i := 0) rfl d_X12_constable_140 0 rfl ?_
          refine aw_getr (k0 := 20) kc_12 (ws_1 w) (Nat.le_of_ble_eq_true rfl) tw_1762 d_X12_constable_141 rfl (wr_1_20 w) ?_
          refine aw_aload_n (i := 0) rfl d_X12_constable_144 0 rfl ?_
          refine aw_geti (k0 := 7) kc_12 (ws_1 w) (Nat.le_of_ble_eq_true rfl) tw_1749 d_X12_constable_145 rfl ?_
          refine aw_vi (v2 := (h_i h 1 7)) (rfl) ?_
          refine aw_iconst (v := 0) d_X12_constable_148 ic_0 ?_
          obtain ⟨b21, k⟩ := k
          refine aw_iast (ws_216 w) b21 d_X12_constable_149 ?_
          refine aw_aload_n (i := 0) rfl d_X12_constable_150 0 rfl ?_
          refine aw_getr (k0 := 21) kc_12 (ws_1 w) (Nat.le_of_ble_eq_true rfl) tw_1763 d_X12_constable_151 rfl (wr_1_21 w) ?_
          refine aw_aload_n (i := 0) rfl d_X12_constable_154 0 rfl ?_
          refine aw_geti (k0 := 7) kc_12 (ws_1 w) (Nat.le_of_ble_eq_true rfl) tw_1749 d_X12_constable_155 rfl ?_
          refine aw_vi (v2 := (h_i h 1 7)) (rfl) ?_
          refine aw_iconst (v := 0) d_X12_constable_158 ic_0 ?_
          obtain ⟨b22, k⟩ := k
          refine aw_iast (ws_217 w) b22 d_X12_constable_159 ?_
          refine aw_aload_n (i := 0) rfl d_X12_constable_160 0 rfl ?_
          refine aw_dup d_X12_constable_161 rfl ?_
          refine aw_geti (k0 := 7) kc_12 (ws_1 w) (Nat.le_of_ble_eq_true rfl) tw_1749 d_X12_constable_162 rfl ?_
          refine aw_vi (v2 := (h_i h 1 7)) (rfl) ?_
          refine aw_iconst (v := 1) d_X12_constable_165 ic_1 ?_
          refine aw_iadd d_X12_constable_166 ?_
          refine aw_puti (k0 := 7) kc_12 (ws_1 w) (Nat.le_of_ble_eq_true rfl) tw_1749 d_X12_constable_167 rfl rfl nf_i ?_
          refine aw_aload_n (i := 0) rfl d_X12_constable_170 0 rfl ?_
          refine aw_geti (k0 := 7) kc_12 (ws_1 w) (Nat.le_of_ble_eq_true rfl) tw_1749 d_X12_constable_171 rfl ?_
          refine aw_vi (v2 := ((h_i h 1 7) + 1)) (rfl) ?_
          refine aw_iconst (v := 1) d_X12_constable_174 ic_1 ?_
          refine aw_isub d_X12_constable_175 ?_
          exact aw_iret rfl d_X12_constable_176 ⟨Nat.le_refl _, Nat.le_refl _⟩ ⟨_, rfl, k⟩
        · have k := k.2 c10
          refine aw_iconst (v := (-1)) d_X12_constable_35 ic_m1 ?_
          exact aw_iret rfl d_X12_constable_36 ⟨Nat.le_refl _, Nat.le_refl _⟩ ⟨_, rfl, k⟩
