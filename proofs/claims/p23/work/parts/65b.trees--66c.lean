section
theorem t_X12_unfold (d : Nat) (h : Hp_) (w : Wf h) (x1 : Int32) (x2 : Int32) (K : Int32 → Hp_ → Prop) (k : AW (m_X12_unfold (d + 1) 0 0) 0 0 5 [(0, .ref 1), (2, .int x2)] [] (h_im h 1 44 x1) (kI K)) : Ci (m_X12_unfold (d + 1) 0 0) [.ref 1, .int x1, .int x2] h K := by
  refine Ct.of (fun _ _ _ => trivial) rfl (Nat.le_of_ble_eq_true rfl) ?_
  show AW (m_X12_unfold (d + 1) 0 0) 0 0 0 [(0, .ref 1), (1, .int x1), (2, .int x2)] [] h (kI K)
  refine aw_aload_n (i := 0) rfl d_X12_unfold_0 0 rfl ?_
  refine aw_iload_n (i := 1) rfl d_X12_unfold_1 1 rfl ?_
  refine aw_puti (k0 := 44) kc_12 (ws_1 w) (Nat.le_of_ble_eq_true rfl) tw_1786 d_X12_unfold_2 rfl rfl nf_i ?_
  exact aw_lvp [0, 2] [(0, .ref 1), (2, .int x2)] rfl k
theorem t_X12_unfold_5 (d : Nat) (h : Hp_) (w : Wf h) (x2 : Int32) (K : Int32 → Hp_ → Prop) (k : ((h_i h 1 36) ≤ (h_i h 1 44) → K 1 h) ∧ (¬ (h_i h 1 36) ≤ (h_i h 1 44) → vp_in (h_i h 1 44) 560 ∧ (((h_i h 226 ((h_i h 1 44) : Int32).toNatClampNeg) = 5 → K 1 h) ∧ (¬ (h_i h 226 ((h_i h 1 44) : Int32).toNatClampNeg) = 5 → vp_in (h_i h 1 44) 560 ∧ ((¬ (h_i h 226 ((h_i h 1 44) : Int32).toNatClampNeg) = 4 → (¬ (h_i h 1 43) = 150 → (¬ 12 = (h_i h 1 42) → AW (m_X12_unfold (d + 1) 0 0) 0 0 158 [(0, .ref 1), (2, .int x2), (3, .int (h_i h 226 ((h_i h 1 44) : Int32).toNatClampNeg))] [.int ((150 * (h_i h 1 42)) + (h_i h 1 43))] h (kI K)) ∧ (12 = (h_i h 1 42) → AW (m_X12_unfold (d + 1) 0 0) 0 0 158 [(0, .ref 1), (2, .int x2), (3, .int (h_i h 226 ((h_i h 1 44) : Int32).toNatClampNeg))] [.int 0] h (kI K))) ∧ ((h_i h 1 43) = 150 → K 0 h)) ∧ ((h_i h 226 ((h_i h 1 44) : Int32).toNatClampNeg) = 4 → Ci (m_X12_unfold (d + 0) 0 0) [.ref 1, .int ((h_i h 1 44) + 1), .int x2] h (fun r10 h8 => Wf h8 ∧ ((¬ r10 = 0 → vp_in ((h_i h8 1 44) + 1) 560 ∧ (AW (m_X12_unfold (d + 1) 0 0) 0 0 84 [(0, .ref 1), (2, .int x2), (4, .int ((h_i h 1 44) + 1)), (5, .int (h_i h8 1 44)), (6, .int (h_i h8 226 (((h_i h8 1 44) + 1) : Int32).toNatClampNeg)), (7, .int 1)] [] h8 (kI K))) ∧ (r10 = 0 → K 0 h8))))))))) : AW (m_X12_unfold (d + 1) 0 0) 0 0 5 [(0, .ref 1), (2, .int x2)] [] h (kI K) := by
  refine aw_aload_n (i := 0) rfl d_X12_unfold_5 0 rfl ?_
  refine aw_geti (k0 := 44) kc_12 (ws_1 w) (Nat.le_of_ble_eq_true rfl) tw_1786 d_X12_unfold_6 rfl ?_
  refine aw_aload_n (i := 0) rfl d_X12_unfold_9 0 rfl ?_
  refine aw_geti (k0 := 36) kc_12 (ws_1 w) (Nat.le_of_ble_eq_true rfl) tw_1778 d_X12_unfold_10 rfl ?_
  refine aw_icmp_ge (tgt := 267) d_X12_unfold_13 rfl (fun c1 => ?_) (fun c1 => ?_)
  · have k := k.1 c1
    refine aw_iconst (v := 1) d_X12_unfold_267 ic_1 ?_
    exact aw_zret rfl rfl d_X12_unfold_268 ⟨Nat.le_refl _, Nat.le_refl _⟩ ⟨_, rfl, k⟩
  · have k := k.2 c1
    refine aw_aload_n (i := 0) rfl d_X12_unfold_16 0 rfl ?_
    refine aw_getr (k0 := 31) kc_12 (ws_1 w) (Nat.le_of_ble_eq_true rfl) tw_1773 d_X12_unfold_17 rfl (wr_1_31 w) ?_
    refine aw_aload_n (i := 0) rfl d_X12_unfold_20 0 rfl ?_
    refine aw_geti (k0 := 44) kc_12 (ws_1 w) (Nat.le_of_ble_eq_true rfl) tw_1786 d_X12_unfold_21 rfl ?_
    obtain ⟨b2, k⟩ := k
    refine aw_iald (ws_226 w) b2 d_X12_unfold_24 ?_
    refine aw_iconst (v := 5) d_X12_unfold_25 ic_5 ?_
    refine aw_icmp_eq (tgt := 267) d_X12_unfold_26 rfl (fun c3 => ?_) (fun c3 => ?_)
    · have k := k.1 c3
      refine aw_iconst (v := 1) d_X12_unfold_267 ic_1 ?_
      exact aw_zret rfl rfl d_X12_unfold_268 ⟨Nat.le_refl _, Nat.le_refl _⟩ ⟨_, rfl, k⟩
    · have k := k.2 c3
      refine aw_aload_n (i := 0) rfl d_X12_unfold_29 0 rfl ?_
      refine aw_getr (k0 := 31) kc_12 (ws_1 w) (Nat.le_of_ble_eq_true rfl) tw_1773 d_X12_unfold_30 rfl (wr_1_31 w) ?_
      refine aw_aload_n (i := 0) rfl d_X12_unfold_33 0 rfl ?_
      refine aw_geti (k0 := 44) kc_12 (ws_1 w) (Nat.le_of_ble_eq_true rfl) tw_1786 d_X12_unfold_34 rfl ?_
      obtain ⟨b4, k⟩ := k
      refine aw_iald (ws_226 w) b4 d_X12_unfold_37 ?_
      refine aw_istore_n (i := 3) rfl [(0, .ref 1), (2, .int x2), (3, .int (h_i h 226 ((h_i h 1 44) : Int32).toNatClampNeg))] d_X12_unfold_38 (Nat.le_of_ble_eq_true rfl) rfl rfl ?_
      refine aw_iload_n (i := 3) rfl d_X12_unfold_39 2 rfl ?_
      refine aw_iconst (v := 4) d_X12_unfold_40 ic_4 ?_
      refine aw_icmp_ne (tgt := 120) d_X12_unfold_41 rfl (fun c5 => ?_) (fun c5 => ?_)
      · have k := k.1 c5
        refine aw_aload_n (i := 0) rfl d_X12_unfold_120 0 rfl ?_
        refine aw_geti (k0 := 43) kc_12 (ws_1 w) (Nat.le_of_ble_eq_true rfl) tw_1785 d_X12_unfold_121 rfl ?_
        refine aw_sipush (v := 150) d_X12_unfold_124 is_150 ?_
        refine aw_icmp_ne (tgt := 132) d_X12_unfold_127 rfl (fun c6 => ?_) (fun c6 => ?_)
        · have k := k.1 c6
          refine aw_bipush (v := 12) d_X12_unfold_132 ib_12 ?_
          refine aw_aload_n (i := 0) rfl d_X12_unfold_134 0 rfl ?_
          refine aw_geti (k0 := 42) kc_12 (ws_1 w) (Nat.le_of_ble_eq_true rfl) tw_1784 d_X12_unfold_135 rfl ?_
          refine aw_icmp_ne (tgt := 145) d_X12_unfold_138 rfl (fun c7 => ?_) (fun c7 => ?_)
          · have k := k.1 c7
            refine aw_sipush (v := 150) d_X12_unfold_145 is_150 ?_
            refine aw_aload_n (i := 0) rfl d_X12_unfold_148 0 rfl ?_
            refine aw_geti (k0 := 42) kc_12 (ws_1 w) (Nat.le_of_ble_eq_true rfl) tw_1784 d_X12_unfold_149 rfl ?_
            refine aw_imul d_X12_unfold_152 ?_
            refine aw_aload_n (i := 0) rfl d_X12_unfold_153 0 rfl ?_
            refine aw_geti (k0 := 43) kc_12 (ws_1 w) (Nat.le_of_ble_eq_true rfl) tw_1785 d_X12_unfold_154 rfl ?_
            refine aw_iadd d_X12_unfold_157 ?_
            exact k
          · have k := k.2 c7
            refine aw_iconst (v := 0) d_X12_unfold_141 ic_0 ?_
            refine aw_goto (tgt := 158) d_X12_unfold_142 rfl ?_
            exact k
        · have k := k.2 c6
          refine aw_iconst (v := 0) d_X12_unfold_130 ic_0 ?_
          exact aw_zret rfl rfl d_X12_unfold_131 ⟨Nat.le_refl _, Nat.le_refl _⟩ ⟨_, rfl, k⟩
      · have k := k.2 c5
        refine aw_aload_n (i := 0) rfl d_X12_unfold_44 0 rfl ?_
        refine aw_geti (k0 := 44) kc_12 (ws_1 w) (Nat.le_of_ble_eq_true rfl) tw_1786 d_X12_unfold_45 rfl ?_
        refine aw_iconst (v := 1) d_X12_unfold_48 ic_1 ?_
        refine aw_iadd d_X12_unfold_49 ?_
        refine aw_istore [(0, .ref 1), (2, .int x2), (3, .int (h_i h 226 ((h_i h 1 44) : Int32).toNatClampNeg)), (4, .int ((h_i h 1 44) + 1))] d_X12_unfold_50 (Nat.le_of_ble_eq_true rfl) rfl rfl ?_
        refine aw_aload_n (i := 0) rfl d_X12_unfold_52 0 rfl ?_
        refine aw_iload d_X12_unfold_53 3 rfl ?_
        refine aw_iload_n (i := 2) rfl d_X12_unfold_55 1 rfl ?_
        refine aw_Vi 1 [.int ((h_i h 1 44) + 1), .int x2] [] d_X12_unfold_56 (cV_X12_unfold (d + 0) 0 0) kc_12 (ws_1 w) tw_2279 rfl (rr0 (Nat.le_of_ble_eq_true rfl) (Nat.le_of_ble_eq_true rfl)) (Nat.le_of_ble_eq_true rfl) xs0 k (fun r10 h8 kk => ?_)
        obtain ⟨w9, k⟩ := kk
        refine aw_if_ne (tgt := 64) d_X12_unfold_59 rfl (fun c11 => ?_) (fun c11 => ?_)
        · have k := k.1 c11
          refine aw_aload_n (i := 0) rfl d_X12_unfold_64 0 rfl ?_
          refine aw_geti (k0 := 44) kc_12 (ws_1 w9) (Nat.le_of_ble_eq_true rfl) tw_1786 d_X12_unfold_65 rfl ?_
          refine aw_istore [(0, .ref 1), (2, .int x2), (3, .int (h_i h 226 ((h_i h 1 44) : Int32).toNatClampNeg)), (4, .int ((h_i h 1 44) + 1)), (5, .int (h_i h8 1 44))] d_X12_unfold_68 (Nat.le_of_ble_eq_true rfl) rfl rfl ?_
          refine aw_aload_n (i := 0) rfl d_X12_unfold_70 0 rfl ?_
          refine aw_getr (k0 := 31) kc_12 (ws_1 w9) (Nat.le_of_ble_eq_true rfl) tw_1773 d_X12_unfold_71 rfl (wr_1_31 w9) ?_
          refine aw_iload d_X12_unfold_74 4 rfl ?_
          refine aw_iconst (v := 1) d_X12_unfold_76 ic_1 ?_
          refine aw_iadd d_X12_unfold_77 ?_
          obtain ⟨b12, k⟩ := k
          refine aw_iald (ws_226 w9) b12 d_X12_unfold_78 ?_
          refine aw_istore [(0, .ref 1), (2, .int x2), (3, .int (h_i h 226 ((h_i h 1 44) : Int32).toNatClampNeg)), (4, .int ((h_i h 1 44) + 1)), (5, .int (h_i h8 1 44)), (6, .int (h_i h8 226 (((h_i h8 1 44) + 1) : Int32).toNatClampNeg))] d_X12_unfold_79 (Nat.le_of_ble_eq_true rfl) rfl rfl ?_
          refine aw_iconst (v := 1) d_X12_unfold_81 ic_1 ?_
          refine aw_istore [(0, .ref 1), (2, .int x2), (3, .int (h_i h 226 ((h_i h 1 44) : Int32).toNatClampNeg)), (4, .int ((h_i h 1 44) + 1)), (5, .int (h_i h8 1 44)), (6, .int (h_i h8 226 (((h_i h8 1 44) + 1) : Int32).toNatClampNeg)), (7, .int 1)] d_X12_unfold_82 (Nat.le_of_ble_eq_true rfl) rfl rfl ?_
          exact aw_lvp [0, 1, 3, 4, 5, 6] [(0, .ref 1), (2, .int x2), (4, .int ((h_i h 1 44) + 1)), (5, .int (h_i h8 1 44)), (6, .int (h_i h8 226 (((h_i h8 1 44) + 1) : Int32).toNatClampNeg)), (7, .int 1)] rfl k
        · have k := k.2 c11
          refine aw_iconst (v := 0) d_X12_unfold_62 ic_0 ?_
          exact aw_zret rfl rfl d_X12_unfold_63 ⟨Nat.le_refl _, Nat.le_refl _⟩ ⟨_, rfl, k⟩
theorem t_X12_unfold_158 (d : Nat) (h : Hp_) (w : Wf h) (x2 : Int32) (x3 : Int32) (s0 : Int32) (K : Int32 → Hp_ → Prop) (k : (x2 = 0 → (¬ x3 = 3 → (¬ x3 = 2 → AW (m_X12_unfold (d + 1) 0 0) 0 0 5 [(0, .ref 1), (2, .int x2)] [] (h_im (h_im h 1 43 ((h_i h 1 43) + 1)) 1 44 ((h_i h 1 44) + 2)) (kI K)) ∧ (x3 = 2 → AW (m_X12_unfold (d + 1) 0 0) 0 0 5 [(0, .ref 1), (2, .int x2)] [] (h_im (h_im h 1 43 ((h_i h 1 43) + 1)) 1 44 ((h_i h 1 44) + 3)) (kI K))) ∧ (x3 = 3 → AW (m_X12_unfold (d + 1) 0 0) 0 0 5 [(0, .ref 1), (2, .int x2)] [] (h_im (h_im h 1 43 ((h_i h 1 43) + 1)) 1 44 ((h_i h 1 44) + 1)) (kI K))) ∧ (¬ x2 = 0 → vp_in s0 1800 ∧ ((¬ x3 = 3 → vp_in ((h_i h 1 44) + 1) 560 ∧ (vp_in s0 1800 ∧ ((¬ x3 = 2 → vp_in s0 1800 ∧ ((¬ x3 = 3 → (¬ x3 = 2 → AW (m_X12_unfold (d + 1) 0 0) 0 0 5 [(0, .ref 1), (2, .int x2)] [] (h_im (h_im (h_im (h_im (h_im h 228 s0.toNatClampNeg x3) 229 s0.toNatClampNeg (h_i h 226 (((h_i h 1 44) + 1) : Int32).toNatClampNeg)) 230 s0.toNatClampNeg 0) 1 43 ((h_i h 1 43) + 1)) 1 44 ((h_i h 1 44) + 2)) (kI K)) ∧ (x3 = 2 → AW (m_X12_unfold (d + 1) 0 0) 0 0 5 [(0, .ref 1), (2, .int x2)] [] (h_im (h_im (h_im (h_im (h_im h 228 s0.toNatClampNeg x3) 229 s0.toNatClampNeg (h_i h 226 (((h_i h 1 44) + 1) : Int32).toNatClampNeg)) 230 s0.toNatClampNeg 0) 1 43 ((h_i h 1 43) + 1)) 1 44 ((h_i h 1 44) + 3)) (kI K))) ∧ (x3 = 3 → AW (m_X12_unfold (d + 1) 0 0) 0 0 5 [(0, .ref 1), (2, .int x2)] [] (h_im (h_im (h_im (h_im (h_im h 228 s0.toNatClampNeg x3) 229 s0.toNatClampNeg (h_i h 226 (((h_i h 1 44) + 1) : Int32).toNatClampNeg)) 230 s0.toNatClampNeg 0) 1 43 ((h_i h 1 43) + 1)) 1 44 ((h_i h 1 44) + 1)) (kI K)))) ∧ (x3 = 2 → vp_in ((h_i h 1 44) + 2) 560 ∧ (vp_in s0 1800 ∧ ((¬ x3 = 3 → (¬ x3 = 2 → AW (m_X12_unfold (d + 1) 0 0) 0 0 5 [(0, .ref 1), (2, .int x2)] [] (h_im (h_im (h_im (h_im (h_im h 228 s0.toNatClampNeg x3) 229 s0.toNatClampNeg (h_i h 226 (((h_i h 1 44) + 1) : Int32).toNatClampNeg)) 230 s0.toNatClampNeg (h_i h 226 (((h_i h 1 44) + 2) : Int32).toNatClampNeg)) 1 43 ((h_i h 1 43) + 1)) 1 44 ((h_i h 1 44) + 2)) (kI K)) ∧ (x3 = 2 → AW (m_X12_unfold (d + 1) 0 0) 0 0 5 [(0, .ref 1), (2, .int x2)] [] (h_im (h_im (h_im (h_im (h_im h 228 s0.toNatClampNeg x3) 229 s0.toNatClampNeg (h_i h 226 (((h_i h 1 44) + 1) : Int32).toNatClampNeg)) 230 s0.toNatClampNeg (h_i h 226 (((h_i h 1 44) + 2) : Int32).toNatClampNeg)) 1 43 ((h_i h 1 43) + 1)) 1 44 ((h_i h 1 44) + 3)) (kI K))) ∧ (x3 = 3 → AW (m_X12_unfold (d + 1) 0 0) 0 0 5 [(0, .ref 1), (2, .int x2)] [] (h_im (h_im (h_im (h_im (h_im h 228 s0.toNatClampNeg x3) 229 s0.toNatClampNeg (h_i h 226 (((h_i h 1 44) + 1) : Int32).toNatClampNeg)) 230 s0.toNatClampNeg (h_i h 226 (((h_i h 1 44) + 2) : Int32).toNatClampNeg)) 1 43 ((h_i h 1 43) + 1)) 1 44 ((h_i h 1 44) + 1)) (kI K)))))))) ∧ (x3 = 3 → vp_in s0 1800 ∧ ((¬ x3 = 2 → vp_in s0 1800 ∧ ((¬ x3 = 3 → (¬ x3 = 2 → AW (m_X12_unfold (d + 1) 0 0) 0 0 5 [(0, .ref 1), (2, .int x2)] [] (h_im (h_im (h_im (h_im (h_im h 228 s0.toNatClampNeg x3) 229 s0.toNatClampNeg 0) 230 s0.toNatClampNeg 0) 1 43 ((h_i h 1 43) + 1)) 1 44 ((h_i h 1 44) + 2)) (kI K)) ∧ (x3 = 2 → AW (m_X12_unfold (d + 1) 0 0) 0 0 5 [(0, .ref 1), (2, .int x2)] [] (h_im (h_im (h_im (h_im (h_im h 228 s0.toNatClampNeg x3) 229 s0.toNatClampNeg 0) 230 s0.toNatClampNeg 0) 1 43 ((h_i h 1 43) + 1)) 1 44 ((h_i h 1 44) + 3)) (kI K))) ∧ (x3 = 3 → AW (m_X12_unfold (d + 1) 0 0) 0 0 5 [(0, .ref 1), (2, .int x2)] [] (h_im (h_im (h_im (h_im (h_im h 228 s0.toNatClampNeg x3) 229 s0.toNatClampNeg 0) 230 s0.toNatClampNeg 0) 1 43 ((h_i h 1 43) + 1)) 1 44 ((h_i h 1 44) + 1)) (kI K)))) ∧ (x3 = 2 → vp_in ((h_i h 1 44) + 2) 560 ∧ (vp_in s0 1800 ∧ ((¬ x3 = 3 → (¬ x3 = 2 → AW (m_X12_unfold (d + 1) 0 0) 0 0 5 [(0, .ref 1), (2, .int x2)] [] (h_im (h_im (h_im (h_im (h_im h 228 s0.toNatClampNeg x3) 229 s0.toNatClampNeg 0) 230 s0.toNatClampNeg (h_i h 226 (((h_i h 1 44) + 2) : Int32).toNatClampNeg)) 1 43 ((h_i h 1 43) + 1)) 1 44 ((h_i h 1 44) + 2)) (kI K)) ∧ (x3 = 2 → AW (m_X12_unfold (d + 1) 0 0) 0 0 5 [(0, .ref 1), (2, .int x2)] [] (h_im (h_im (h_im (h_im (h_im h 228 s0.toNatClampNeg x3) 229 s0.toNatClampNeg 0) 230 s0.toNatClampNeg (h_i h 226 (((h_i h 1 44) + 2) : Int32).toNatClampNeg)) 1 43 ((h_i h 1 43) + 1)) 1 44 ((h_i h 1 44) + 3)) (kI K))) ∧ (x3 = 3 → AW (m_X12_unfold (d + 1) 0 0) 0 0 5 [(0, .ref 1), (2, .int x2)] [] (h_im (h_im (h_im (h_im (h_im h 228 s0.toNatClampNeg x3) 229 s0.toNatClampNeg 0) 230 s0.toNatClampNeg (h_i h 226 (((h_i h 1 44) + 2) : Int32).toNatClampNeg)) 1 43 ((h_i h 1 43) + 1)) 1 44 ((h_i h 1 44) + 1)) (kI K)))))))))) : AW (m_X12_unfold (d + 1) 0 0) 0 0 158 [(0, .ref 1), (2, .int x2), (3, .int x3)] [.int s0] h (kI K) := by
  refine aw_istore [(0, .ref 1), (2, .int x2), (3, .int x3), (4, .int s0)] d_X12_unfold_158 (Nat.le_of_ble_eq_true rfl) rfl rfl ?_
  refine aw_iload_n (i := 2) rfl d_X12_unfold_160 1 rfl ?_
  refine aw_if_eq (tgt := 226) d_X12_unfold_161 rfl (fun c13 => ?_) (fun c13 => ?_)
  · have k := k.1 c13
    refine aw_aload_n (i := 0) rfl d_X12_unfold_226 0 rfl ?_
    refine aw_dup d_X12_unfold_227 rfl ?_
    refine aw_geti (k0 := 43) kc_12 (ws_1 w) (Nat.le_of_ble_eq_true rfl) tw_1785 d_X12_unfold_228 rfl ?_
    refine aw_iconst (v := 1) d_X12_unfold_231 ic_1 ?_
    refine aw_iadd d_X12_unfold_232 ?_
    refine aw_puti (k0 := 43) kc_12 (ws_1 w) (Nat.le_of_ble_eq_true rfl) tw_1785 d_X12_unfold_233 rfl rfl nf_i ?_
    refine aw_aload_n (i := 0) rfl d_X12_unfold_236 0 rfl ?_
    refine aw_dup d_X12_unfold_237 rfl ?_
    refine aw_geti (k0 := 44) kc_12 (ws_1 w) (Nat.le_of_ble_eq_true rfl) tw_1786 d_X12_unfold_238 rfl ?_
    refine aw_vi (v2 := (h_i h 1 44)) (rfl) ?_
    refine aw_iload_n (i := 3) rfl d_X12_unfold_241 2 rfl ?_
    refine aw_iconst (v := 3) d_X12_unfold_242 ic_3 ?_
    refine aw_icmp_ne (tgt := 250) d_X12_unfold_243 rfl (fun c14 => ?_) (fun c14 => ?_)
    · have k := k.1 c14
      refine aw_iload_n (i := 3) rfl d_X12_unfold_250 2 rfl ?_
      refine aw_iconst (v := 2) d_X12_unfold_251 ic_2 ?_
      refine aw_icmp_ne (tgt := 259) d_X12_unfold_252 rfl (fun c15 => ?_) (fun c15 => ?_)
      · have k := k.1 c15
        refine aw_iconst (v := 2) d_X12_unfold_259 ic_2 ?_
        refine aw_iadd d_X12_unfold_260 ?_
        refine aw_puti (k0 := 44) kc_12 (ws_1 w) (Nat.le_of_ble_eq_true rfl) tw_1786 d_X12_unfold_261 rfl rfl nf_i ?_
        refine aw_goto (tgt := 5) d_X12_unfold_264 rfl ?_
        exact aw_lvp [0, 1] [(0, .ref 1), (2, .int x2)] rfl k
      · have k := k.2 c15
        refine aw_iconst (v := 3) d_X12_unfold_255 ic_3 ?_
        refine aw_goto (tgt := 260) d_X12_unfold_256 rfl ?_
        refine aw_iadd d_X12_unfold_260 ?_
        refine aw_puti (k0 := 44) kc_12 (ws_1 w) (Nat.le_of_ble_eq_true rfl) tw_1786 d_X12_unfold_261 rfl rfl nf_i ?_
        refine aw_goto (tgt := 5) d_X12_unfold_264 rfl ?_
        exact aw_lvp [0, 1] [(0, .ref 1), (2, .int x2)] rfl k
    · have k := k.2 c14
      refine aw_iconst (v := 1) d_X12_unfold_246 ic_1 ?_
      refine aw_goto (tgt := 260) d_X12_unfold_247 rfl ?_
      refine aw_iadd d_X12_unfold_260 ?_
      refine aw_puti (k0 := 44) kc_12 (ws_1 w) (Nat.le_of_ble_eq_true rfl) tw_1786 d_X12_unfold_261 rfl rfl nf_i ?_
      refine aw_goto (tgt := 5) d_X12_unfold_264 rfl ?_
      exact aw_lvp [0, 1] [(0, .ref 1), (2, .int x2)] rfl k
  · have k := k.2 c13
    refine aw_aload_n (i := 0) rfl d_X12_unfold_164 0 rfl ?_
    refine aw_getr (k0 := 39) kc_12 (ws_1 w) (Nat.le_of_ble_eq_true rfl) tw_1781 d_X12_unfold_165 rfl (wr_1_39 w) ?_
    refine aw_iload d_X12_unfold_168 3 rfl ?_
    refine aw_iload_n (i := 3) rfl d_X12_unfold_170 2 rfl ?_
    obtain ⟨b16, k⟩ := k
    refine aw_iast (ws_228 w) b16 d_X12_unfold_171 ?_
    refine aw_aload_n (i := 0) rfl d_X12_unfold_172 0 rfl ?_
    refine aw_getr (k0 := 40) kc_12 (ws_1 w) (Nat.le_of_ble_eq_true rfl) tw_1782 d_X12_unfold_173 rfl (wr_1_40 w) ?_
    refine aw_iload d_X12_unfold_176 3 rfl ?_
    refine aw_iload_n (i := 3) rfl d_X12_unfold_178 2 rfl ?_
    refine aw_iconst (v := 3) d_X12_unfold_179 ic_3 ?_
    refine aw_icmp_ne (tgt := 187) d_X12_unfold_180 rfl (fun c17 => ?_) (fun c17 => ?_)
    · have k := k.1 c17
      refine aw_aload_n (i := 0) rfl d_X12_unfold_187 0 rfl ?_
      refine aw_getr (k0 := 31) kc_12 (ws_1 w) (Nat.le_of_ble_eq_true rfl) tw_1773 d_X12_unfold_188 rfl (wr_1_31 w) ?_
      refine aw_aload_n (i := 0) rfl d_X12_unfold_191 0 rfl ?_
      refine aw_geti (k0 := 44) kc_12 (ws_1 w) (Nat.le_of_ble_eq_true rfl) tw_1786 d_X12_unfold_192 rfl ?_
      refine aw_vi (v2 := (h_i h 1 44)) (rfl) ?_
      refine aw_iconst (v := 1) d_X12_unfold_195 ic_1 ?_
      refine aw_iadd d_X12_unfold_196 ?_
      obtain ⟨b18, k⟩ := k
      refine aw_iald (ws_226 w) b18 d_X12_unfold_197 ?_
      refine aw_vi (v2 := (h_i h 226 (((h_i h 1 44) + 1) : Int32).toNatClampNeg)) (rfl) ?_
      obtain ⟨b19, k⟩ := k
      refine aw_iast (ws_229 w) b19 d_X12_unfold_198 ?_
      refine aw_aload_n (i := 0) rfl d_X12_unfold_199 0 rfl ?_
      refine aw_getr (k0 := 41) kc_12 (ws_1 w) (Nat.le_of_ble_eq_true rfl) tw_1783 d_X12_unfold_200 rfl (wr_1_41 w) ?_
      refine aw_iload d_X12_unfold_203 3 rfl ?_
      refine aw_iload_n (i := 3) rfl d_X12_unfold_205 2 rfl ?_
      refine aw_iconst (v := 2) d_X12_unfold_206 ic_2 ?_
      refine aw_icmp_ne (tgt := 224) d_X12_unfold_207 rfl (fun c20 => ?_) (fun c20 => ?_)
      · have k := k.1 c20
        refine aw_iconst (v := 0) d_X12_unfold_224 ic_0 ?_
        obtain ⟨b21, k⟩ := k
        refine aw_iast (ws_230 w) b21 d_X12_unfold_225 ?_
        refine aw_aload_n (i := 0) rfl d_X12_unfold_226 0 rfl ?_
        refine aw_dup d_X12_unfold_227 rfl ?_
        refine aw_geti (k0 := 43) kc_12 (ws_1 w) (Nat.le_of_ble_eq_true rfl) tw_1785 d_X12_unfold_228 rfl ?_
        refine aw_vi (v2 := (h_i h 1 43)) (rfl) ?_
        refine aw_iconst (v := 1) d_X12_unfold_231 ic_1 ?_
        refine aw_iadd d_X12_unfold_232 ?_
        refine aw_puti (k0 := 43) kc_12 (ws_1 w) (Nat.le_of_ble_eq_true rfl) tw_1785 d_X12_unfold_233 rfl rfl nf_i ?_
        refine aw_aload_n (i := 0) rfl d_X12_unfold_236 0 rfl ?_
        refine aw_dup d_X12_unfold_237 rfl ?_
        refine aw_geti (k0 := 44) kc_12 (ws_1 w) (Nat.le_of_ble_eq_true rfl) tw_1786 d_X12_unfold_238 rfl ?_
        refine aw_vi (v2 := (h_i h 1 44)) (rfl) ?_
        refine aw_iload_n (i := 3) rfl d_X12_unfold_241 2 rfl ?_
        refine aw_iconst (v := 3) d_X12_unfold_242 ic_3 ?_
        refine aw_icmp_ne (tgt := 250) d_X12_unfold_243 rfl (fun c22 => ?_) (fun c22 => ?_)
        · have k := k.1 c22
          refine aw_iload_n (i := 3) rfl d_X12_unfold_250 2 rfl ?_
          refine aw_iconst (v := 2) d_X12_unfold_251 ic_2 ?_
          refine aw_icmp_ne (tgt := 259) d_X12_unfold_252 rfl (fun c23 => ?_) (fun c23 => ?_)
          · have k := k.1 c23
            refine aw_iconst (v := 2) d_X12_unfold_259 ic_2 ?_
            refine aw_iadd d_X12_unfold_260 ?_
            refine aw_puti (k0 := 44) kc_12 (ws_1 w) (Nat.le_of_ble_eq_true rfl) tw_1786 d_X12_unfold_261 rfl rfl nf_i ?_
            refine aw_goto (tgt := 5) d_X12_unfold_264 rfl ?_
            exact aw_lvp [0, 1] [(0, .ref 1), (2, .int x2)] rfl k
          · have k := k.2 c23
            refine aw_iconst (v := 3) d_X12_unfold_255 ic_3 ?_
            refine aw_goto (tgt := 260) d_X12_unfold_256 rfl ?_
            refine aw_iadd d_X12_unfold_260 ?_
            refine aw_puti (k0 := 44) kc_12 (ws_1 w) (Nat.le_of_ble_eq_true rfl) tw_1786 d_X12_unfold_261 rfl rfl nf_i ?_
            refine aw_goto (tgt := 5) d_X12_unfold_264 rfl ?_
            exact aw_lvp [0, 1] [(0, .ref 1), (2, .int x2)] rfl k
        · have k := k.2 c22
          refine aw_iconst (v := 1) d_X12_unfold_246 ic_1 ?_
          refine aw_goto (tgt := 260) d_X12_unfold_247 rfl ?_
          refine aw_iadd d_X12_unfold_260 ?_
          refine aw_puti (k0 := 44) kc_12 (ws_1 w) (Nat.le_of_ble_eq_true rfl) tw_1786 d_X12_unfold_261 rfl rfl nf_i ?_
          refine aw_goto (tgt := 5) d_X12_unfold_264 rfl ?_
          exact aw_lvp [0, 1] [(0, .ref 1), (2, .int x2)] rfl k
      · have k := k.2 c20
        refine aw_aload_n (i := 0) rfl d_X12_unfold_210 0 rfl ?_
        refine aw_getr (k0 := 31) kc_12 (ws_1 w) (Nat.le_of_ble_eq_true rfl) tw_1773 d_X12_unfold_211 rfl (wr_1_31 w) ?_
        refine aw_aload_n (i := 0) rfl d_X12_unfold_214 0 rfl ?_
        refine aw_geti (k0 := 44) kc_12 (ws_1 w) (Nat.le_of_ble_eq_true rfl) tw_1786 d_X12_unfold_215 rfl ?_
        refine aw_vi (v2 := (h_i h 1 44)) (rfl) ?_
        refine aw_iconst (v := 2) d_X12_unfold_218 ic_2 ?_
        refine aw_iadd d_X12_unfold_219 ?_
        obtain ⟨b24, k⟩ := k
        refine aw_iald (ws_226 w) b24 d_X12_unfold_220 ?_
        refine aw_vi (v2 := (h_i h 226 (((h_i h 1 44) + 2) : Int32).toNatClampNeg)) (rfl) ?_
        refine aw_goto (tgt := 225) d_X12_unfold_221 rfl ?_
        obtain ⟨b25, k⟩ := k
        refine aw_iast (ws_230 w) b25 d_X12_unfold_225 ?_
        refine aw_aload_n (i := 0) rfl d_X12_unfold_226 0 rfl ?_
        refine aw_dup d_X12_unfold_227 rfl ?_
        refine aw_geti (k0 := 43) kc_12 (ws_1 w) (Nat.le_of_ble_eq_true rfl) tw_1785 d_X12_unfold_228 rfl ?_
        refine aw_vi (v2 := (h_i h 1 43)) (rfl) ?_
        refine aw_iconst (v := 1) d_X12_unfold_231 ic_1 ?_
        refine aw_iadd d_X12_unfold_232 ?_
        refine aw_puti (k0 := 43) kc_12 (ws_1 w) (Nat.le_of_ble_eq_true rfl) tw_1785 d_X12_unfold_233 rfl rfl nf_i ?_
        refine aw_aload_n (i := 0) rfl d_X12_unfold_236 0 rfl ?_
        refine aw_dup d_X12_unfold_237 rfl ?_
        refine aw_geti (k0 := 44) kc_12 (ws_1 w) (Nat.le_of_ble_eq_true rfl) tw_1786 d_X12_unfold_238 rfl ?_
        refine aw_vi (v2 := (h_i h 1 44)) (rfl) ?_
        refine aw_iload_n (i := 3) rfl d_X12_unfold_241 2 rfl ?_
        refine aw_iconst (v := 3) d_X12_unfold_242 ic_3 ?_
        refine aw_icmp_ne (tgt := 250) d_X12_unfold_243 rfl (fun c26 => ?_) (fun c26 => ?_)
        · have k := k.1 c26
          refine aw_iload_n (i := 3) rfl d_X12_unfold_250 2 rfl ?_
          refine aw_iconst (v := 2) d_X12_unfold_251 ic_2 ?_
          refine aw_icmp_ne (tgt := 259) d_X12_unfold_252 rfl (fun c27 => ?_) (fun c27 => ?_)
          · have k := k.1 c27
            refine aw_iconst (v := 2) d_X12_unfold_259 ic_2 ?_
            refine aw_iadd d_X12_unfold_260 ?_
            refine aw_puti (k0 := 44) kc_12 (ws_1 w) (Nat.le_of_ble_eq_true rfl) tw_1786 d_X12_unfold_261 rfl rfl nf_i ?_
            refine aw_goto (tgt := 5) d_X12_unfold_264 rfl ?_
            exact aw_lvp [0, 1] [(0, .ref 1), (2, .int x2)] rfl k
          · have k := k.2 c27
            refine aw_iconst (v := 3) d_X12_unfold_255 ic_3 ?_
            refine aw_goto (tgt := 260) d_X12_unfold_256 rfl ?_
            refine aw_iadd d_X12_unfold_260 ?_
            refine aw_puti (k0 := 44) kc_12 (ws_1 w) (Nat.le_of_ble_eq_true rfl) tw_1786 d_X12_unfold_261 rfl rfl nf_i ?_
            refine aw_goto (tgt := 5) d_X12_unfold_264 rfl ?_
            exact aw_lvp [0, 1] [(0, .ref 1), (2, .int x2)] rfl k
        · have k := k.2 c26
          refine aw_iconst (v := 1) d_X12_unfold_246 ic_1 ?_
          refine aw_goto (tgt := 260) d_X12_unfold_247 rfl ?_
          refine aw_iadd d_X12_unfold_260 ?_
          refine aw_puti (k0 := 44) kc_12 (ws_1 w) (Nat.le_of_ble_eq_true rfl) tw_1786 d_X12_unfold_261 rfl rfl nf_i ?_
          refine aw_goto (tgt := 5) d_X12_unfold_264 rfl ?_
          exact aw_lvp [0, 1] [(0, .ref 1), (2, .int x2)] rfl k
    · have k := k.2 c17
      refine aw_iconst (v := 0) d_X12_unfold_183 ic_0 ?_
      refine aw_goto (tgt := 198) d_X12_unfold_184 rfl ?_
      obtain ⟨b28, k⟩ := k
      refine aw_iast (ws_229 w) b28 d_X12_unfold_198 ?_
      refine aw_aload_n (i := 0) rfl d_X12_unfold_199 0 rfl ?_
      refine aw_getr (k0 := 41) kc_12 (ws_1 w) (Nat.le_of_ble_eq_true rfl) tw_1783 d_X12_unfold_200 rfl (wr_1_41 w) ?_
      refine aw_iload d_X12_unfold_203 3 rfl ?_
      refine aw_iload_n (i := 3) rfl d_X12_unfold_205 2 rfl ?_
      refine aw_iconst (v := 2) d_X12_unfold_206 ic_2 ?_
      refine aw_icmp_ne (tgt := 224) d_X12_unfold_207 rfl (fun c29 => ?_) (fun c29 => ?_)
      · have k := k.1 c29
        refine aw_iconst (v := 0) d_X12_unfold_224 ic_0 ?_
        obtain ⟨b30, k⟩ := k
        refine aw_iast (ws_230 w) b30 d_X12_unfold_225 ?_
        refine aw_aload_n (i := 0) rfl d_X12_unfold_226 0 rfl ?_
        refine aw_dup d_X12_unfold_227 rfl ?_
        refine aw_geti (k0 := 43) kc_12 (ws_1 w) (Nat.le_of_ble_eq_true rfl) tw_1785 d_X12_unfold_228 rfl ?_
        refine aw_vi (v2 := (h_i h 1 43)) (rfl) ?_
        refine aw_iconst (v := 1) d_X12_unfold_231 ic_1 ?_
        refine aw_iadd d_X12_unfold_232 ?_
        refine aw_puti (k0 := 43) kc_12 (ws_1 w) (Nat.le_of_ble_eq_true rfl) tw_1785 d_X12_unfold_233 rfl rfl nf_i ?_
        refine aw_aload_n (i := 0) rfl d_X12_unfold_236 0 rfl ?_
        refine aw_dup d_X12_unfold_237 rfl ?_
        refine aw_geti (k0 := 44) kc_12 (ws_1 w) (Nat.le_of_ble_eq_true rfl) tw_1786 d_X12_unfold_238 rfl ?_
        refine aw_vi (v2 := (h_i h 1 44)) (rfl) ?_
        refine aw_iload_n (i := 3) rfl d_X12_unfold_241 2 rfl ?_
        refine aw_iconst (v := 3) d_X12_unfold_242 ic_3 ?_
        refine aw_icmp_ne (tgt := 250) d_X12_unfold_243 rfl (fun c31 => ?_) (fun c31 => ?_)
        · have k := k.1 c31
          refine aw_iload_n (i := 3) rfl d_X12_unfold_250 2 rfl ?_
          refine aw_iconst (v := 2) d_X12_unfold_251 ic_2 ?_
          refine aw_icmp_ne (tgt := 259) d_X12_unfold_252 rfl (fun c32 => ?_) (fun c32 => ?_)
          · have k := k.1 c32
            refine aw_iconst (v := 2) d_X12_unfold_259 ic_2 ?_
            refine aw_iadd d_X12_unfold_260 ?_
            refine aw_puti (k0 := 44) kc_12 (ws_1 w) (Nat.le_of_ble_eq_true rfl) tw_1786 d_X12_unfold_261 rfl rfl nf_i ?_
            refine aw_goto (tgt := 5) d_X12_unfold_264 rfl ?_
            exact aw_lvp [0, 1] [(0, .ref 1), (2, .int x2)] rfl k
          · have k := k.2 c32
            refine aw_iconst (v := 3) d_X12_unfold_255 ic_3 ?_
            refine aw_goto (tgt := 260) d_X12_unfold_256 rfl ?_
            refine aw_iadd d_X12_unfold_260 ?_
            refine aw_puti (k0 := 44) kc_12 (ws_1 w) (Nat.le_of_ble_eq_true rfl) tw_1786 d_X12_unfold_261 rfl rfl nf_i ?_
            refine aw_goto (tgt := 5) d_X12_unfold_264 rfl ?_
            exact aw_lvp [0, 1] [(0, .ref 1), (2, .int x2)] rfl k
        · have k := k.2 c31
          refine aw_iconst (v := 1) d_X12_unfold_246 ic_1 ?_
          refine aw_goto (tgt := 260) d_X12_unfold_247 rfl ?_
          refine aw_iadd d_X12_unfold_260 ?_
          refine aw_puti (k0 := 44) kc_12 (ws_1 w) (Nat.le_of_ble_eq_true rfl) tw_1786 d_X12_unfold_261 rfl rfl nf_i ?_
          refine aw_goto (tgt := 5) d_X12_unfold_264 rfl ?_
          exact aw_lvp [0, 1] [(0, .ref 1), (2, .int x2)] rfl k
      · have k := k.2 c29
        refine aw_aload_n (i := 0) rfl d_X12_unfold_210 0 rfl ?_
        refine aw_getr (k0 := 31) kc_12 (ws_1 w) (Nat.le_of_ble_eq_true rfl) tw_1773 d_X12_unfold_211 rfl (wr_1_31 w) ?_
        refine aw_aload_n (i := 0) rfl d_X12_unfold_214 0 rfl ?_
        refine aw_geti (k0 := 44) kc_12 (ws_1 w) (Nat.le_of_ble_eq_true rfl) tw_1786 d_X12_unfold_215 rfl ?_
        refine aw_vi (v2 := (h_i h 1 44)) (rfl) ?_
        refine aw_iconst (v := 2) d_X12_unfold_218 ic_2 ?_
        refine aw_iadd d_X12_unfold_219 ?_
        obtain ⟨b33, k⟩ := k
        refine aw_iald (ws_226 w) b33 d_X12_unfold_220 ?_
        refine aw_vi (v2 := (h_i h 226 (((h_i h 1 44) + 2) : Int32).toNatClampNeg)) (rfl) ?_
        refine aw_goto (tgt := 225) d_X12_unfold_221 rfl ?_
        obtain ⟨b34, k⟩ := k
        refine aw_iast (ws_230 w) b34 d_X12_unfold_225 ?_
        refine aw_aload_n (i := 0) rfl d_X12_unfold_226 0 rfl ?_
        refine aw_dup d_X12_unfold_227 rfl ?_
        refine aw_geti (k0 := 43) kc_12 (ws_1 w) (Nat.le_of_ble_eq_true rfl) tw_1785 d_X12_unfold_228 rfl ?_
        refine aw_vi (v2 := (h_i h 1 43)) (rfl) ?_
        refine aw_iconst (v := 1) d_X12_unfold_231 ic_1 ?_
        refine aw_iadd d_X12_unfold_232 ?_
        refine aw_puti (k0 := 43) kc_12 (ws_1 w) (Nat.le_of_ble_eq_true rfl) tw_1785 d_X12_unfold_233 rfl rfl nf_i ?_
        refine aw_aload_n (i := 0) rfl d_X12_unfold_236 0 rfl ?_
        refine aw_dup d_X12_unfold_237 rfl ?_
        refine aw_geti (k0 := 44) kc_12 (ws_1 w) (Nat.le_of_ble_eq_true rfl) tw_1786 d_X12_unfold_238 rfl ?_
        refine aw_vi (v2 := (h_i h 1 44)) (rfl) ?_
        refine aw_iload_n (i := 3) rfl d_X12_unfold_241 2 rfl ?_
        refine aw_iconst (v := 3) d_X12_unfold_242 ic_3 ?_
        refine aw_icmp_ne (tgt := 250) d_X12_unfold_243 rfl (fun c35 => ?_) (fun c35 => ?_)
        · have k := k.1 c35
          refine aw_iload_n (i := 3) rfl d_X12_unfold_250 2 rfl ?_
          refine aw_iconst (v := 2) d_X12_unfold_251 ic_2 ?_
          refine aw_icmp_ne (tgt := 259) d_X12_unfold_252 rfl (fun c36 => ?_) (fun c36 => ?_)
          · have k := k.1 c36
            refine aw_iconst (v := 2) d_X12_unfold_259 ic_2 ?_
            refine aw_iadd d_X12_unfold_260 ?_
            refine aw_puti (k0 := 44) kc_12 (ws_1 w) (Nat.le_of_ble_eq_true rfl) tw_1786 d_X12_unfold_261 rfl rfl nf_i ?_
            refine aw_goto (tgt := 5) d_X12_unfold_264 rfl ?_
            exact aw_lvp [0, 1] [(0, .ref 1), (2, .int x2)] rfl k
          · have k := k.2 c36
            refine aw_iconst (v := 3) d_X12_unfold_255 ic_3 ?_
            refine aw_goto (tgt := 260) d_X12_unfold_256 rfl ?_
            refine aw_iadd d_X12_unfold_260 ?_
            refine aw_puti (k0 := 44) kc_12 (ws_1 w) (Nat.le_of_ble_eq_true rfl) tw_1786 d_X12_unfold_261 rfl rfl nf_i ?_
            refine aw_goto (tgt := 5) d_X12_unfold_264 rfl ?_
            exact aw_lvp [0, 1] [(0, .ref 1), (2, .int x2)] rfl k
        · have k := k.2 c35
          refine aw_iconst (v := 1) d_X12_unfold_246 ic_1 ?_
          refine aw_goto (tgt := 260) d_X12_unfold_247 rfl ?_
          refine aw_iadd d_X12_unfold_260 ?_
          refine aw_puti (k0 := 44) kc_12 (ws_1 w) (Nat.le_of_ble_eq_true rfl) tw_1786 d_X12_unfold_261 rfl rfl nf_i ?_
          refine aw_goto (tgt := 5) d_X12_unfold_264 rfl ?_
          exact aw_lvp [0, 1] [(0, .ref 1), (2, .int x2)] rfl k
theorem t_X12_unfold_84 (d : Nat) (h : Hp_) (w : Wf h) (x2 : Int32) (x4 : Int32) (x5 : Int32) (x6 : Int32) (x7 : Int32) (K : Int32 → Hp_ → Prop) (k : (x6 ≤ x7 → AW (m_X12_unfold (d + 1) 0 0) 0 0 5 [(0, .ref 1), (2, .int x2)] [] (h_im h 1 44 (x5 + 2)) (kI K)) ∧ (¬ x6 ≤ x7 → Ci (m_X12_unfold (d + 0) 0 0) [.ref 1, .int x4, .int x2] h (fun r40 h38 => Wf h38 ∧ ((¬ r40 = 0 → AW (m_X12_unfold (d + 1) 0 0) 0 0 84 [(0, .ref 1), (2, .int x2), (4, .int x4), (5, .int x5), (6, .int x6), (7, .int (x7 + 1))] [] h38 (kI K)) ∧ (r40 = 0 → K 0 h38))))) : AW (m_X12_unfold (d + 1) 0 0) 0 0 84 [(0, .ref 1), (2, .int x2), (4, .int x4), (5, .int x5), (6, .int x6), (7, .int x7)] [] h (kI K) := by
  refine aw_iload d_X12_unfold_84 5 rfl ?_
  refine aw_iload d_X12_unfold_86 4 rfl ?_
  refine aw_icmp_ge (tgt := 109) d_X12_unfold_88 rfl (fun c37 => ?_) (fun c37 => ?_)
  · have k := k.1 c37
    refine aw_aload_n (i := 0) rfl d_X12_unfold_109 0 rfl ?_
    refine aw_iload d_X12_unfold_110 3 rfl ?_
    refine aw_iconst (v := 2) d_X12_unfold_112 ic_2 ?_
    refine aw_iadd d_X12_unfold_113 ?_
    refine aw_puti (k0 := 44) kc_12 (ws_1 w) (Nat.le_of_ble_eq_true rfl) tw_1786 d_X12_unfold_114 rfl rfl nf_i ?_
    refine aw_goto (tgt := 5) d_X12_unfold_117 rfl ?_
    exact aw_lvp [0, 1] [(0, .ref 1), (2, .int x2)] rfl k
  · have k := k.2 c37
    refine aw_aload_n (i := 0) rfl d_X12_unfold_91 0 rfl ?_
    refine aw_iload d_X12_unfold_92 2 rfl ?_
    refine aw_iload_n (i := 2) rfl d_X12_unfold_94 1 rfl ?_
    refine aw_Vi 1 [.int x4, .int x2] [] d_X12_unfold_95 (cV_X12_unfold (d + 0) 0 0) kc_12 (ws_1 w) tw_2279 rfl (rr0 (Nat.le_of_ble_eq_true rfl) (Nat.le_of_ble_eq_true rfl)) (Nat.le_of_ble_eq_true rfl) xs0 k (fun r40 h38 kk => ?_)
    obtain ⟨w39, k⟩ := kk
    refine aw_if_ne (tgt := 103) d_X12_unfold_98 rfl (fun c41 => ?_) (fun c41 => ?_)
    · have k := k.1 c41
      refine aw_iinc (v := (x7 + 1)) [(0, .ref 1), (2, .int x2), (4, .int x4), (5, .int x5), (6, .int x6), (7, .int (x7 + 1))] d_X12_unfold_103 5 rfl rfl (Nat.le_of_ble_eq_true rfl) rfl rfl ?_
      refine aw_goto (tgt := 84) d_X12_unfold_106 rfl ?_
      exact k
    · have k := k.2 c41
      refine aw_iconst (v := 0) d_X12_unfold_101 ic_0 ?_
      exact aw_zret rfl rfl d_X12_unfold_102 ⟨Nat.le_refl _, Nat.le_refl _⟩ ⟨_, rfl, k⟩
end
section
theorem t_X12_rankOn (d : Nat) (h : Hp_) (w : Wf h) (x1 : Int32) (x2 : Int32) (x3 : Int32) (K : Int32 → Hp_ → Prop) (k : vp_in x1 12 ∧ (AW (m_X12_rankOn (d + 0) 0 0) 0 0 14 [(0, .ref 1), (1, .int x1), (2, .int x2), (3, .int x3), (4, .int (h_i h 204 x1.toNatClampNeg)), (5, .int (-1)), (6, .int 0)] [] h (kI K))) : Ci (m_X12_rankOn (d + 0) 0 0) [.ref 1, .int x1, .int x2, .int x3] h K := by
  refine Ct.of (fun _ _ _ => trivial) rfl (Nat.le_of_ble_eq_true rfl) ?_
  show AW (m_X12_rankOn (d + 0) 0 0) 0 0 0 [(0, .ref 1), (1, .int x1), (2, .int x2), (3, .int x3)] [] h (kI K)
  refine aw_aload_n (i := 0) rfl d_X12_rankOn_0 0 rfl ?_
  refine aw_getr (k0 := 8) kc_12 (ws_1 w) (Nat.le_of_ble_eq_true rfl) tw_1750 d_X12_rankOn_1 rfl (wr_1_8 w) ?_
  refine aw_iload_n (i := 1) rfl d_X12_rankOn_4 1 rfl ?_
  obtain ⟨b1, k⟩ := k
  refine aw_iald (ws_204 w) b1 d_X12_rankOn_5 ?_
  refine aw_istore [(0, .ref 1), (1, .int x1), (2, .int x2), (3, .int x3), (4, .int (h_i h 204 x1.toNatClampNeg))] d_X12_rankOn_6 (Nat.le_of_ble_eq_true rfl) rfl rfl ?_
  refine aw_iconst (v := (-1)) d_X12_rankOn_8 ic_m1 ?_
  refine aw_istore [(0, .ref 1), (1, .int x1), (2, .int x2), (3, .int x3), (4, .int (h_i h 204 x1.toNatClampNeg)), (5, .int (-1))] d_X12_rankOn_9 (Nat.le_of_ble_eq_true rfl) rfl rfl ?_
  refine aw_iconst (v := 0) d_X12_rankOn_11 ic_0 ?_
  refine aw_istore [(0, .ref 1), (1, .int x1), (2, .int x2), (3, .int x3), (4, .int (h_i h 204 x1.toNatClampNeg)), (5, .int (-1)), (6, .int 0)] d_X12_rankOn_12 (Nat.le_of_ble_eq_true rfl) rfl rfl ?_
  exact k
theorem t_X12_rankOn_14 (d : Nat) (h : Hp_) (w : Wf h) (x1 : Int32) (x2 : Int32) (x3 : Int32) (x4 : Int32) (x5 : Int32) (x6 : Int32) (K : Int32 → Hp_ → Prop) (k : ((h_i h 1 29) ≤ x6 → K x4 h) ∧ (¬ (h_i h 1 29) ≤ x6 → vp_in x6 40 ∧ ((¬ (h_i h 221 x6.toNatClampNeg) = x1 → AW (m_X12_rankOn (d + 0) 0 0) 0 0 14 [(0, .ref 1), (1, .int x1), (2, .int x2), (3, .int x3), (4, .int x4), (5, .int x5), (6, .int (x6 + 1))] [] h (kI K)) ∧ ((h_i h 221 x6.toNatClampNeg) = x1 → vp_in x6 40 ∧ ((x3 < (h_i h 224 x6.toNatClampNeg) → AW (m_X12_rankOn (d + 0) 0 0) 0 0 14 [(0, .ref 1), (1, .int x1), (2, .int x2), (3, .int x3), (4, .int x4), (5, .int x5), (6, .int (x6 + 1))] [] h (kI K)) ∧ (¬ x3 < (h_i h 224 x6.toNatClampNeg) → vp_in x6 40 ∧ ((x2 < (h_i h 223 x6.toNatClampNeg) → AW (m_X12_rankOn (d + 0) 0 0) 0 0 14 [(0, .ref 1), (1, .int x1), (2, .int x2), (3, .int x3), (4, .int x4), (5, .int x5), (6, .int (x6 + 1))] [] h (kI K)) ∧ (¬ x2 < (h_i h 223 x6.toNatClampNeg) → vp_in x6 40 ∧ (((h_i h 223 x6.toNatClampNeg) < x5 → AW (m_X12_rankOn (d + 0) 0 0) 0 0 14 [(0, .ref 1), (1, .int x1), (2, .int x2), (3, .int x3), (4, .int x4), (5, .int x5), (6, .int (x6 + 1))] [] h (kI K)) ∧ (¬ (h_i h 223 x6.toNatClampNeg) < x5 → vp_in x6 40 ∧ (vp_in x6 40 ∧ (AW (m_X12_rankOn (d + 0) 0 0) 0 0 14 [(0, .ref 1), (1, .int x1), (2, .int x2), (3, .int x3), (4, .int (h_i h 222 x6.toNatClampNeg)), (5, .int (h_i h 223 x6.toNatClampNeg)), (6, .int (x6 + 1))] [] h (kI K))))))))))))) : AW (m_X12_rankOn (d + 0) 0 0) 0 0 14 [(0, .ref 1), (1, .int x1), (2, .int x2), (3, .int x3), (4, .int x4), (5, .int x5), (6, .int x6)] [] h (kI K) := by
  refine aw_iload d_X12_rankOn_14 6 rfl ?_
  refine aw_aload_n (i := 0) rfl d_X12_rankOn_16 0 rfl ?_
  refine aw_geti (k0 := 29) kc_12 (ws_1 w) (Nat.le_of_ble_eq_true rfl) tw_1771 d_X12_rankOn_17 rfl ?_
  refine aw_icmp_ge (tgt := 92) d_X12_rankOn_20 rfl (fun c2 => ?_) (fun c2 => ?_)
  · have k := k.1 c2
    refine aw_iload d_X12_rankOn_92 4 rfl ?_
    exact aw_iret rfl d_X12_rankOn_94 ⟨Nat.le_refl _, Nat.le_refl _⟩ ⟨_, rfl, k⟩
  · have k := k.2 c2
    refine aw_aload_n (i := 0) rfl d_X12_rankOn_23 0 rfl ?_
    refine aw_getr (k0 := 25) kc_12 (ws_1 w) (Nat.le_of_ble_eq_true rfl) tw_1767 d_X12_rankOn_24 rfl (wr_1_25 w) ?_
    refine aw_iload d_X12_rankOn_27 6 rfl ?_
    obtain ⟨b3, k⟩ := k
    refine aw_iald (ws_221 w) b3 d_X12_rankOn_29 ?_
    refine aw_iload_n (i := 1) rfl d_X12_rankOn_30 1 rfl ?_
    refine aw_icmp_ne (tgt := 86) d_X12_rankOn_31 rfl (fun c4 => ?_) (fun c4 => ?_)
    · have k := k.1 c4
      refine aw_iinc (v := (x6 + 1)) [(0, .ref 1), (1, .int x1), (2, .int x2), (3, .int x3), (4, .int x4), (5, .int x5), (6, .int (x6 + 1))] d_X12_rankOn_86 6 rfl rfl (Nat.le_of_ble_eq_true rfl) rfl rfl ?_
      refine aw_goto (tgt := 14) d_X12_rankOn_89 rfl ?_
      exact k
    · have k := k.2 c4
      refine aw_aload_n (i := 0) rfl d_X12_rankOn_34 0 rfl ?_
      refine aw_getr (k0 := 28) kc_12 (ws_1 w) (Nat.le_of_ble_eq_true rfl) tw_1770 d_X12_rankOn_35 rfl (wr_1_28 w) ?_
      refine aw_iload d_X12_rankOn_38 6 rfl ?_
      obtain ⟨b5, k⟩ := k
      refine aw_iald (ws_224 w) b5 d_X12_rankOn_40 ?_
      refine aw_iload_n (i := 3) rfl d_X12_rankOn_41 3 rfl ?_
      refine aw_icmp_gt (tgt := 86) d_X12_rankOn_42 rfl (fun c6 => ?_) (fun c6 => ?_)
      · have k := k.1 c6
        refine aw_iinc (v := (x6 + 1)) [(0, .ref 1), (1, .int x1), (2, .int x2), (3, .int x3), (4, .int x4), (5, .int x5), (6, .int (x6 + 1))] d_X12_rankOn_86 6 rfl rfl (Nat.le_of_ble_eq_true rfl) rfl rfl ?_
        refine aw_goto (tgt := 14) d_X12_rankOn_89 rfl ?_
        exact k
      · have k := k.2 c6
        refine aw_aload_n (i := 0) rfl d_X12_rankOn_45 0 rfl ?_
        refine aw_getr (k0 := 27) kc_12 (ws_1 w) (Nat.le_of_ble_eq_true rfl) tw_1769 d_X12_rankOn_46 rfl (wr_1_27 w) ?_
        refine aw_iload d_X12_rankOn_49 6 rfl ?_
        obtain ⟨b7, k⟩ := k
        refine aw_iald (ws_223 w) b7 d_X12_rankOn_51 ?_
        refine aw_iload_n (i := 2) rfl d_X12_rankOn_52 2 rfl ?_
        refine aw_icmp_gt (tgt := 86) d_X12_rankOn_53 rfl (fun c8 => ?_) (fun c8 => ?_)
        · have k := k.1 c8
          refine aw_iinc (v := (x6 + 1)) [(0, .ref 1), (1, .int x1), (2, .int x2), (3, .int x3), (4, .int x4), (5, .int x5), (6, .int (x6 + 1))] d_X12_rankOn_86 6 rfl rfl (Nat.le_of_ble_eq_true rfl) rfl rfl ?_
          refine aw_goto (tgt := 14) d_X12_rankOn_89 rfl ?_
          exact k
        · have k := k.2 c8
          refine aw_aload_n (i := 0) rfl d_X12_rankOn_56 0 rfl ?_
          refine aw_getr (k0 := 27) kc_12 (ws_1 w) (Nat.le_of_ble_eq_true rfl) tw_1769 d_X12_rankOn_57 rfl (wr_1_27 w) ?_
          refine aw_iload d_X12_rankOn_60 6 rfl ?_
          obtain ⟨b9, k⟩ := k
          refine aw_iald (ws_223 w) b9 d_X12_rankOn_62 ?_
          refine aw_iload d_X12_rankOn_63 5 rfl ?_
          refine aw_icmp_lt (tgt := 86) d_X12_rankOn_65 rfl (fun c10 => ?_) (fun c10 => ?_)
          · have k := k.1 c10
            refine aw_iinc (v := (x6 + 1)) [(0, .ref 1), (1, .int x1), (2, .int x2), (3, .int x3), (4, .int x4), (5, .int x5), (6, .int (x6 + 1))] d_X12_rankOn_86 6 rfl rfl (Nat.le_of_ble_eq_true rfl) rfl rfl ?_
            refine aw_goto (tgt := 14) d_X12_rankOn_89 rfl ?_
            exact k
          · have k := k.2 c10
            refine aw_aload_n (i := 0) rfl d_X12_rankOn_68 0 rfl ?_
            refine aw_getr (k0 := 26) kc_12 (ws_1 w) (Nat.le_of_ble_eq_true rfl) tw_1768 d_X12_rankOn_69 rfl (wr_1_26 w) ?_
            refine aw_iload d_X12_rankOn_72 6 rfl ?_
            obtain ⟨b11, k⟩ := k
            refine aw_iald (ws_222 w) b11 d_X12_rankOn_74 ?_
            refine aw_istore [(0, .ref 1), (1, .int x1), (2, .int x2), (3, .int x3), (4, .int (h_i h 222 x6.toNatClampNeg)), (5, .int x5), (6, .int x6)] d_X12_rankOn_75 (Nat.le_of_ble_eq_true rfl) rfl rfl ?_
            refine aw_aload_n (i := 0) rfl d_X12_rankOn_77 0 rfl ?_
            refine aw_getr (k0 := 27) kc_12 (ws_1 w) (Nat.le_of_ble_eq_true rfl) tw_1769 d_X12_rankOn_78 rfl (wr_1_27 w) ?_
            refine aw_iload d_X12_rankOn_81 6 rfl ?_
            obtain ⟨b12, k⟩ := k
            refine aw_iald (ws_223 w) b12 d_X12_rankOn_83 ?_
            refine aw_istore [(0, .ref 1), (1, .int x1), (2, .int x2), (3, .int x3), (4, .int (h_i h 222 x6.toNatClampNeg)), (5, .int (h_i h 223 x6.toNatClampNeg)), (6, .int x6)] d_X12_rankOn_84 (Nat.le_of_ble_eq_true rfl) rfl rfl ?_
            refine aw_iinc (v := (x6 + 1)) [(0, .ref 1), (1, .int x1), (2, .int x2), (3, .int x3), (4, .int (h_i h 222 x6.toNatClampNeg)), (5, .int (h_i h 223 x6.toNatClampNeg)), (6, .int (x6 + 1))] d_X12_rankOn_86 6 rfl rfl (Nat.le_of_ble_eq_true rfl) rfl rfl ?_
            refine aw_goto (tgt := 14) d_X12_rankOn_89 rfl ?_
            exact k
theorem t_X12_stateOf (d : Nat) (h : Hp_) (w : Wf h) (x1 : Int32) (x2 : Int32) (K : Int32 → Hp_ → Prop) (k : vp_in x1 400 ∧ (((h_i h 241 x1.toNatClampNeg) = (-1) → vp_in x1 400 ∧ (((h_i h 242 x1.toNatClampNeg) = (-1) → K 0 h) ∧ (¬ (h_i h 242 x1.toNatClampNeg) = (-1) → vp_in x1 400 ∧ ((x2 < (h_i h 242 x1.toNatClampNeg) → K 0 h) ∧ (¬ x2 < (h_i h 242 x1.toNatClampNeg) → K 2 h))))) ∧ (¬ (h_i h 241 x1.toNatClampNeg) = (-1) → vp_in x1 400 ∧ ((x2 < (h_i h 241 x1.toNatClampNeg) → vp_in x1 400 ∧ (((h_i h 242 x1.toNatClampNeg) = (-1) → K 0 h) ∧ (¬ (h_i h 242 x1.toNatClampNeg) = (-1) → vp_in x1 400 ∧ ((x2 < (h_i h 242 x1.toNatClampNeg) → K 0 h) ∧ (¬ x2 < (h_i h 242 x1.toNatClampNeg) → K 2 h))))) ∧ (¬ x2 < (h_i h 241 x1.toNatClampNeg) → K 1 h))))) : Ci (m_X12_stateOf (d + 0) 0 0) [.ref 1, .int x1, .int x2] h K := by
  refine Ct.of (fun _ _ _ => trivial) rfl (Nat.le_of_ble_eq_true rfl) ?_
  show AW (m_X12_stateOf (d + 0) 0 0) 0 0 0 [(0, .ref 1), (1, .int x1), (2, .int x2)] [] h (kI K)
  refine aw_aload_n (i := 0) rfl d_X12_stateOf_0 0 rfl ?_
  refine aw_getr (k0 := 56) kc_12 (ws_1 w) (Nat.le_of_ble_eq_true rfl) tw_1798 d_X12_stateOf_1 rfl (wr_1_56 w) ?_
  refine aw_iload_n (i := 1) rfl d_X12_stateOf_4 1 rfl ?_
  obtain ⟨b1, k⟩ := k
  refine aw_iald (ws_241 w) b1 d_X12_stateOf_5 ?_
  refine aw_iconst (v := (-1)) d_X12_stateOf_6 ic_m1 ?_
  refine aw_icmp_eq (tgt := 22) d_X12_stateOf_7 rfl (fun c2 => ?_) (fun c2 => ?_)
  · have k := k.1 c2
    refine aw_aload_n (i := 0) rfl d_X12_stateOf_22 0 rfl ?_
    refine aw_getr (k0 := 57) kc_12 (ws_1 w) (Nat.le_of_ble_eq_true rfl) tw_1799 d_X12_stateOf_23 rfl (wr_1_57 w) ?_
    refine aw_iload_n (i := 1) rfl d_X12_stateOf_26 1 rfl ?_
    obtain ⟨b3, k⟩ := k
    refine aw_iald (ws_242 w) b3 d_X12_stateOf_27 ?_
    refine aw_iconst (v := (-1)) d_X12_stateOf_28 ic_m1 ?_
    refine aw_icmp_eq (tgt := 46) d_X12_stateOf_29 rfl (fun c4 => ?_) (fun c4 => ?_)
    · have k := k.1 c4
      refine aw_iconst (v := 0) d_X12_stateOf_46 ic_0 ?_
      exact aw_iret rfl d_X12_stateOf_47 ⟨Nat.le_refl _, Nat.le_refl _⟩ ⟨_, rfl, k⟩
    · have k := k.2 c4
      refine aw_aload_n (i := 0) rfl d_X12_stateOf_32 0 rfl ?_
      refine aw_getr (k0 := 57) kc_12 (ws_1 w) (Nat.le_of_ble_eq_true rfl) tw_1799 d_X12_stateOf_33 rfl (wr_1_57 w) ?_
      refine aw_iload_n (i := 1) rfl d_X12_stateOf_36 1 rfl ?_
      obtain ⟨b5, k⟩ := k
      refine aw_iald (ws_242 w) b5 d_X12_stateOf_37 ?_
      refine aw_iload_n (i := 2) rfl d_X12_stateOf_38 2 rfl ?_
      refine aw_icmp_gt (tgt := 46) d_X12_stateOf_39 rfl (fun c6 => ?_) (fun c6 => ?_)
      · have k := k.1 c6
        refine aw_iconst (v := 0) d_X12_stateOf_46 ic_0 ?_
        exact aw_iret rfl d_X12_stateOf_47 ⟨Nat.le_refl _, Nat.le_refl _⟩ ⟨_, rfl, k⟩
      · have k := k.2 c6
        refine aw_iconst (v := 2) d_X12_stateOf_42 ic_2 ?_
        refine aw_goto (tgt := 47) d_X12_stateOf_43 rfl ?_
        exact aw_iret rfl d_X12_stateOf_47 ⟨Nat.le_refl _, Nat.le_refl _⟩ ⟨_, rfl, k⟩
  · have k := k.2 c2
    refine aw_aload_n (i := 0) rfl d_X12_stateOf_10 0 rfl ?_
    refine aw_getr (k0 := 56) kc_12 (ws_1 w) (Nat.le_of_ble_eq_true rfl) tw_1798 d_X12_stateOf_11 rfl (wr_1_56 w) ?_
    refine aw_iload_n (i := 1) rfl d_X12_stateOf_14 1 rfl ?_
    obtain ⟨b7, k⟩ := k
    refine aw_iald (ws_241 w) b7 d_X12_stateOf_15 ?_
    refine aw_iload_n (i := 2) rfl d_X12_stateOf_16 2 rfl ?_
    refine aw_icmp_gt (tgt := 22) d_X12_stateOf_17 rfl (fun c8 => ?_) (fun c8 => ?_)
    · have k := k.1 c8
      refine aw_aload_n (i := 0) rfl d_X12_stateOf_22 0 rfl ?_
      refine aw_getr (k0 := 57) kc_12 (ws_1 w) (Nat.le_of_ble_eq_true rfl) tw_1799 d_X12_stateOf_23 rfl (wr_1_57 w) ?_
      refine aw_iload_n (i := 1) rfl d_X12_stateOf_26 1 rfl ?_
      obtain ⟨b9, k⟩ := k
      refine aw_iald (ws_242 w) b9 d_X12_stateOf_27 ?_
      refine aw_iconst (v := (-1)) d_X12_stateOf_28 ic_m1 ?_
      refine aw_icmp_eq (tgt := 46) d_X12_stateOf_29 rfl (fun c10 => ?_) (fun c10 => ?_)
      · have k := k.1 c10
        refine aw_iconst (v := 0) d_X12_stateOf_46 ic_0 ?_
        exact aw_iret rfl d_X12_stateOf_47 ⟨Nat.le_refl _, Nat.le_refl _⟩ ⟨_, rfl, k⟩
      · have k := k.2 c10
        refine aw_aload_n (i := 0) rfl d_X12_stateOf_32 0 rfl ?_
        refine aw_getr (k0 := 57) kc_12 (ws_1 w) (Nat.le_of_ble_eq_true rfl) tw_1799 d_X12_stateOf_33 rfl (wr_1_57 w) ?_
        refine aw_iload_n (i := 1) rfl d_X12_stateOf_36 1 rfl ?_
        obtain ⟨b11, k⟩ := k
        refine aw_iald (ws_242 w) b11 d_X12_stateOf_37 ?_
        refine aw_iload_n (i := 2) rfl d_X12_stateOf_38 2 rfl ?_
        refine aw_icmp_gt (tgt := 46) d_X12_stateOf_39 rfl (fun c12 => ?_) (fun c12 => ?_)
        · have k := k.1 c12
          refine aw_iconst (v := 0) d_X12_stateOf_46 ic_0 ?_
          exact aw_iret rfl d_X12_stateOf_47 ⟨Nat.le_refl _, Nat.le_refl _⟩ ⟨_, rfl, k⟩
        · have k := k.2 c12
          refine aw_iconst (v := 2) d_X12_stateOf_42 ic_2 ?_
          refine aw_goto (tgt := 47) d_X12_stateOf_43 rfl ?_
          exact aw_iret rfl d_X12_stateOf_47 ⟨Nat.le_refl _, Nat.le_refl _⟩ ⟨_, rfl, k⟩
    · have k := k.2 c8
      refine aw_iconst (v := 1) d_X12_stateOf_20 ic_1 ?_
      exact aw_iret rfl d_X12_stateOf_21 ⟨Nat.le_refl _, Nat.le_refl _⟩ ⟨_, rfl, k⟩
theorem t_X12_causeOf (d : Nat) (h : Hp_) (w : Wf h) (x1 : Int32) (x2 : Int32) (K : Int32 → Hp_ → Prop) (k : vp_in x1 400 ∧ (AW (m_X12_causeOf (d + 0) 0 0) 0 0 10 [(0, .ref 1), (1, .int x1), (2, .int x2), (3, .int (h_i h 243 x1.toNatClampNeg)), (4, .int 0)] [] h (kI K))) : Ci (m_X12_causeOf (d + 0) 0 0) [.ref 1, .int x1, .int x2] h K := by
  refine Ct.of (fun _ _ _ => trivial) rfl (Nat.le_of_ble_eq_true rfl) ?_
  show AW (m_X12_causeOf (d + 0) 0 0) 0 0 0 [(0, .ref 1), (1, .int x1), (2, .int x2)] [] h (kI K)
  refine aw_aload_n (i := 0) rfl d_X12_causeOf_0 0 rfl ?_
  refine aw_getr (k0 := 58) kc_12 (ws_1 w) (Nat.le_of_ble_eq_true rfl) tw_1800 d_X12_causeOf_1 rfl (wr_1_58 w) ?_
  refine aw_iload_n (i := 1) rfl d_X12_causeOf_4 1 rfl ?_
  obtain ⟨b1, k⟩ := k
  refine aw_iald (ws_243 w) b1 d_X12_causeOf_5 ?_
  refine aw_istore_n (i := 3) rfl [(0, .ref 1), (1, .int x1), (2, .int x2), (3, .int (h_i h 243 x1.toNatClampNeg))] d_X12_causeOf_6 (Nat.le_of_ble_eq_true rfl) rfl rfl ?_
  refine aw_iconst (v := 0) d_X12_causeOf_7 ic_0 ?_
  refine aw_istore [(0, .ref 1), (1, .int x1), (2, .int x2), (3, .int (h_i h 243 x1.toNatClampNeg)), (4, .int 0)] d_X12_causeOf_8 (Nat.le_of_ble_eq_true rfl) rfl rfl ?_
  exact k
theorem t_X12_causeOf_10 (d : Nat) (h : Hp_) (w : Wf h) (x1 : Int32) (x2 : Int32) (x3 : Int32) (x4 : Int32) (K : Int32 → Hp_ → Prop) (k : ((h_i h 1 64) ≤ x4 → K x3 h) ∧ (¬ (h_i h 1 64) ≤ x4 → vp_in x4 200 ∧ ((¬ (h_i h 245 x4.toNatClampNeg) = x1 → AW (m_X12_causeOf (d + 0) 0 0) 0 0 10 [(0, .ref 1), (1, .int x1), (2, .int x2), (3, .int x3), (4, .int (x4 + 1))] [] h (kI K)) ∧ ((h_i h 245 x4.toNatClampNeg) = x1 → vp_in x4 200 ∧ ((x2 < (h_i h 247 x4.toNatClampNeg) → AW (m_X12_causeOf (d + 0) 0 0) 0 0 10 [(0, .ref 1), (1, .int x1), (2, .int x2), (3, .int x3), (4, .int (x4 + 1))] [] h (kI K)) ∧ (¬ x2 < (h_i h 247 x4.toNatClampNeg) → vp_in x4 200 ∧ (AW (m_X12_causeOf (d + 0) 0 0) 0 0 10 [(0, .ref 1), (1, .int x1), (2, .int x2), (3, .int (h_i h 246 x4.toNatClampNeg)), (4, .int (x4 + 1))] [] h (kI K)))))))) : AW (m_X12_causeOf (d + 0) 0 0) 0 0 10 [(0, .ref 1), (1, .int x1), (2, .int x2), (3, .int x3), (4, .int x4)] [] h (kI K) := by
  refine aw_iload d_X12_causeOf_10 4 rfl ?_
  refine aw_aload_n (i := 0) rfl d_X12_causeOf_12 0 rfl ?_
  refine aw_geti (k0 := 64) kc_12 (ws_1 w) (Nat.le_of_ble_eq_true rfl) tw_1806 d_X12_causeOf_13 rfl ?_
  refine aw_icmp_ge (tgt := 55) d_X12_causeOf_16 rfl (fun c2 => ?_) (fun c2 => ?_)
  · have k := k.1 c2
    refine aw_iload_n (i := 3) rfl d_X12_causeOf_55 3 rfl ?_
    exact aw_iret rfl d_X12_causeOf_56 ⟨Nat.le_refl _, Nat.le_refl _⟩ ⟨_, rfl, k⟩
  · have k := k.2 c2
    refine aw_aload_n (i := 0) rfl d_X12_causeOf_19 0 rfl ?_
    refine aw_getr (k0 := 60) kc_12 (ws_1 w) (Nat.le_of_ble_eq_true rfl) tw_1802 d_X12_causeOf_20 rfl (wr_1_60 w) ?_
    refine aw_iload d_X12_causeOf_23 4 rfl ?_
    obtain ⟨b3, k⟩ := k
    refine aw_iald (ws_245 w) b3 d_X12_causeOf_25 ?_
    refine aw_iload_n (i := 1) rfl d_X12_causeOf_26 1 rfl ?_
    refine aw_icmp_ne (tgt := 49) d_X12_causeOf_27 rfl (fun c4 => ?_) (fun c4 => ?_)
    · have k := k.1 c4
      refine aw_iinc (v := (x4 + 1)) [(0, .ref 1), (1, .int x1), (2, .int x2), (3, .int x3), (4, .int (x4 + 1))] d_X12_causeOf_49 4 rfl rfl (Nat.le_of_ble_eq_true rfl) rfl rfl ?_
      refine aw_goto (tgt := 10) d_X12_causeOf_52 rfl ?_
      exact k
    · have k := k.2 c4
      refine aw_aload_n (i := 0) rfl d_X12_causeOf_30 0 rfl ?_
      refine aw_getr (k0 := 62) kc_12 (ws_1 w) (Nat.le_of_ble_eq_true rfl) tw_1804 d_X12_causeOf_31 rfl (wr_1_62 w) ?_
      refine aw_iload d_X12_causeOf_34 4 rfl ?_
      obtain ⟨b5, k⟩ := k
      refine aw_iald (ws_247 w) b5 d_X12_causeOf_36 ?_
      refine aw_iload_n (i := 2) rfl d_X12_causeOf_37 2 rfl ?_
      refine aw_icmp_gt (tgt := 49) d_X12_causeOf_38 rfl (fun c6 => ?_) (fun c6 => ?_)
      · have k := k.1 c6
        refine aw_iinc (v := (x4 + 1)) [(0, .ref 1), (1, .int x1), (2, .int x2), (3, .int x3), (4, .int (x4 + 1))] d_X12_causeOf_49 4 rfl rfl (Nat.le_of_ble_eq_true rfl) rfl rfl ?_
        refine aw_goto (tgt := 10) d_X12_causeOf_52 rfl ?_
        exact k
      · have k := k.2 c6
        refine aw_aload_n (i := 0) rfl d_X12_causeOf_41 0 rfl ?_
        refine aw_getr (k0 := 61) kc_12 (ws_1 w) (Nat.le_of_ble_eq_true rfl) tw_1803 d_X12_causeOf_42 rfl (wr_1_61 w) ?_
        refine aw_iload d_X12_causeOf_45 4 rfl ?_
        obtain ⟨b7, k⟩ := k
        refine aw_iald (ws_246 w) b7 d_X12_causeOf_47 ?_
        refine aw_istore_n (i := 3) rfl [(0, .ref 1), (1, .int x1), (2, .int x2), (3, .int (h_i h 246 x4.toNatClampNeg)), (4, .int x4)] d_X12_causeOf_48 (Nat.le_of_ble_eq_true rfl) rfl rfl ?_
        refine aw_iinc (v := (x4 + 1)) [(0, .ref 1), (1, .int x1), (2, .int x2), (3, .int (h_i h 246 x4.toNatClampNeg)), (4, .int (x4 + 1))] d_X12_causeOf_49 4 rfl rfl (Nat.le_of_ble_eq_true rfl) rfl rfl ?_
        refine aw_goto (tgt := 10) d_X12_causeOf_52 rfl ?_
        exact k
theorem t_X12_forceOf (d : Nat) (h : Hp_) (x1 : Int32) (x2 : Int32) (x3 : Int32) (K : Int32 → Hp_ → Prop) (k : AW (m_X12_forceOf (d + 0) 0 0) 0 0 6 [(0, .ref 1), (1, .int x1), (2, .int x2), (3, .int x3), (4, .int (-1)), (5, .int 0)] [] h (kI K)) : Ci (m_X12_forceOf (d + 0) 0 0) [.ref 1, .int x1, .int x2, .int x3] h K := by
  refine Ct.of (fun _ _ _ => trivial) rfl (Nat.le_of_ble_eq_true rfl) ?_
  show AW (m_X12_forceOf (d + 0) 0 0) 0 0 0 [(0, .ref 1), (1, .int x1), (2, .int x2), (3, .int x3)] [] h (kI K)
  refine aw_iconst (v := (-1)) d_X12_forceOf_0 ic_m1 ?_
  refine aw_istore [(0, .ref 1), (1, .int x1), (2, .int x2), (3, .int x3), (4, .int (-1))] d_X12_forceOf_1 (Nat.le_of_ble_eq_true rfl) rfl rfl ?_
  refine aw_iconst (v := 0) d_X12_forceOf_3 ic_0 ?_
  refine aw_istore [(0, .ref 1), (1, .int x1), (2, .int x2), (3, .int x3), (4, .int (-1)), (5, .int 0)] d_X12_forceOf_4 (Nat.le_of_ble_eq_true rfl) rfl rfl ?_
  exact k
theorem t_X12_forceOf_6 (d : Nat) (h : Hp_) (w : Wf h) (x1 : Int32) (x2 : Int32) (x3 : Int32) (x4 : Int32) (x5 : Int32) (K : Int32 → Hp_ → Prop) (k : vp_in x1 2 ∧ (((h_i h 235 x1.toNatClampNeg) ≤ x5 → K x4 h) ∧ (¬ (h_i h 235 x1.toNatClampNeg) ≤ x5 → vp_in ((20 * x1) + x5) 40 ∧ ((x3 < (h_i h 234 (((20 * x1) + x5) : Int32).toNatClampNeg) → AW (m_X12_forceOf (d + 0) 0 0) 0 0 6 [(0, .ref 1), (1, .int x1), (2, .int x2), (3, .int x3), (4, .int x4), (5, .int (x5 + 1))] [] h (kI K)) ∧ (¬ x3 < (h_i h 234 (((20 * x1) + x5) : Int32).toNatClampNeg) → vp_in ((20 * x1) + x5) 40 ∧ ((x2 < (h_i h 233 (((20 * x1) + x5) : Int32).toNatClampNeg) → AW (m_X12_forceOf (d + 0) 0 0) 0 0 6 [(0, .ref 1), (1, .int x1), (2, .int x2), (3, .int x3), (4, .int x4), (5, .int (x5 + 1))] [] h (kI K)) ∧ (¬ x2 < (h_i h 233 (((20 * x1) + x5) : Int32).toNatClampNeg) → (x4 = (-1) → AW (m_X12_forceOf (d + 0) 0 0) 0 0 6 [(0, .ref 1), (1, .int x1), (2, .int x2), (3, .int x3), (4, .int x5), (5, .int (x5 + 1))] [] h (kI K)) ∧ (¬ x4 = (-1) → vp_in ((20 * x1) + x5) 40 ∧ (vp_in ((20 * x1) + x4) 40 ∧ (((h_i h 233 (((20 * x1) + x5) : Int32).toNatClampNeg) < (h_i h 233 (((20 * x1) + x4) : Int32).toNatClampNeg) → AW (m_X12_forceOf (d + 0) 0 0) 0 0 6 [(0, .ref 1), (1, .int x1), (2, .int x2), (3, .int x3), (4, .int x4), (5, .int (x5 + 1))] [] h (kI K)) ∧ (¬ (h_i h 233 (((20 * x1) + x5) : Int32).toNatClampNeg) < (h_i h 233 (((20 * x1) + x4) : Int32).toNatClampNeg) → AW (m_X12_forceOf (d + 0) 0 0) 0 0 6 [(0, .ref 1), (1, .int x1), (2, .int x2), (3, .int x3), (4, .int x5), (5, .int (x5 + 1))] [] h (kI K)))))))))))) : AW (m_X12_forceOf (d + 0) 0 0) 0 0 6 [(0, .ref 1), (1, .int x1), (2, .int x2), (3, .int x3), (4, .int x4), (5, .int x5)] [] h (kI K) := by
  refine aw_iload d_X12_forceOf_6 5 rfl ?_
  refine aw_aload_n (i := 0) rfl d_X12_forceOf_8 0 rfl ?_
  refine aw_getr (k0 := 49) kc_12 (ws_1 w) (Nat.le_of_ble_eq_true rfl) tw_1791 d_X12_forceOf_9 rfl (wr_1_49 w) ?_
  refine aw_iload_n (i := 1) rfl d_X12_forceOf_12 1 rfl ?_
  obtain ⟨b1, k⟩ := k
  refine aw_iald (ws_235 w) b1 d_X12_forceOf_13 ?_
  refine aw_icmp_ge (tgt := 86) d_X12_forceOf_14 rfl (fun c2 => ?_) (fun c2 => ?_)
  · have k := k.1 c2
    refine aw_iload d_X12_forceOf_86 4 rfl ?_
    exact aw_iret rfl d_X12_forceOf_88 ⟨Nat.le_refl _, Nat.le_refl _⟩ ⟨_, rfl, k⟩
  · have k := k.2 c2
    refine aw_bipush (v := 20) d_X12_forceOf_17 ib_20 ?_
    refine aw_iload_n (i := 1) rfl d_X12_forceOf_19 1 rfl ?_
    refine aw_imul d_X12_forceOf_20 ?_
    refine aw_iload d_X12_forceOf_21 5 rfl ?_
    refine aw_iadd d_X12_forceOf_23 ?_
    refine aw_istore [(0, .ref 1), (1, .int x1), (2, .int x2), (3, .int x3), (4, .int x4), (5, .int x5), (6, .int ((20 * x1) + x5))] d_X12_forceOf_24 (Nat.le_of_ble_eq_true rfl) rfl rfl ?_
    refine aw_aload_n (i := 0) rfl d_X12_forceOf_26 0 rfl ?_
    refine aw_getr (k0 := 48) kc_12 (ws_1 w) (Nat.le_of_ble_eq_true rfl) tw_1790 d_X12_forceOf_27 rfl (wr_1_48 w) ?_
    refine aw_iload d_X12_forceOf_30 6 rfl ?_
    obtain ⟨b3, k⟩ := k
    refine aw_iald (ws_234 w) b3 d_X12_forceOf_32 ?_
    refine aw_iload_n (i := 3) rfl d_X12_forceOf_33 3 rfl ?_
    refine aw_icmp_gt (tgt := 80) d_X12_forceOf_34 rfl (fun c4 => ?_) (fun c4 => ?_)
    · have k := k.1 c4
      refine aw_iinc (v := (x5 + 1)) [(0, .ref 1), (1, .int x1), (2, .int x2), (3, .int x3), (4, .int x4), (5, .int (x5 + 1)), (6, .int ((20 * x1) + x5))] d_X12_forceOf_80 5 rfl rfl (Nat.le_of_ble_eq_true rfl) rfl rfl ?_
      refine aw_goto (tgt := 6) d_X12_forceOf_83 rfl ?_
      exact aw_lvp [0, 1, 2, 3, 4, 5] [(0, .ref 1), (1, .int x1), (2, .int x2), (3, .int x3), (4, .int x4), (5, .int (x5 + 1))] rfl k
    · have k := k.2 c4
      refine aw_aload_n (i := 0) rfl d_X12_forceOf_37 0 rfl ?_
      refine aw_getr (k0 := 47) kc_12 (ws_1 w) (Nat.le_of_ble_eq_true rfl) tw_1789 d_X12_forceOf_38 rfl (wr_1_47 w) ?_
      refine aw_iload d_X12_forceOf_41 6 rfl ?_
      obtain ⟨b5, k⟩ := k
      refine aw_iald (ws_233 w) b5 d_X12_forceOf_43 ?_
      refine aw_iload_n (i := 2) rfl d_X12_forceOf_44 2 rfl ?_
      refine aw_icmp_gt (tgt := 80) d_X12_forceOf_45 rfl (fun c6 => ?_) (fun c6 => ?_)
      · have k := k.1 c6
        refine aw_iinc (v := (x5 + 1)) [(0, .ref 1), (1, .int x1), (2, .int x2), (3, .int x3), (4, .int x4), (5, .int (x5 + 1)), (6, .int ((20 * x1) + x5))] d_X12_forceOf_80 5 rfl rfl (Nat.le_of_ble_eq_true rfl) rfl rfl ?_
        refine aw_goto (tgt := 6) d_X12_forceOf_83 rfl ?_
        exact aw_lvp [0, 1, 2, 3, 4, 5] [(0, .ref 1), (1, .int x1), (2, .int x2), (3, .int x3), (4, .int x4), (5, .int (x5 + 1))] rfl k
      · have k := k.2 c6
        refine aw_iload d_X12_forceOf_48 4 rfl ?_
        refine aw_iconst (v := (-1)) d_X12_forceOf_50 ic_m1 ?_
        refine aw_icmp_eq (tgt := 76) d_X12_forceOf_51 rfl (fun c7 => ?_) (fun c7 => ?_)
        · have k := k.1 c7
          refine aw_iload d_X12_forceOf_76 5 rfl ?_
          refine aw_istore [(0, .ref 1), (1, .int x1), (2, .int x2), (3, .int x3), (4, .int x5), (5, .int x5), (6, .int ((20 * x1) + x5))] d_X12_forceOf_78 (Nat.le_of_ble_eq_true rfl) rfl rfl ?_
          refine aw_iinc (v := (x5 + 1)) [(0, .ref 1), (1, .int x1), (2, .int x2), (3, .int x3), (4, .int x5), (5, .int (x5 + 1)), (6, .int ((20 * x1) + x5))] d_X12_forceOf_80 5 rfl rfl (Nat.le_of_ble_eq_true rfl) rfl rfl ?_
          refine aw_goto (tgt := 6) d_X12_forceOf_83 rfl ?_
          exact aw_lvp [0, 1, 2, 3, 4, 5] [(0, .ref 1), (1, .int x1), (2, .int x2), (3, .int x3), (4, .int x5), (5, .int (x5 + 1))] rfl k
        · have k := k.2 c7
          refine aw_aload_n (i := 0) rfl d_X12_forceOf_54 0 rfl ?_
          refine aw_getr (k0 := 47) kc_12 (ws_1 w) (Nat.le_of_ble_eq_true rfl) tw_1789 d_X12_forceOf_55 rfl (wr_1_47 w) ?_
          refine aw_iload d_X12_forceOf_58 6 rfl ?_
          obtain ⟨b8, k⟩ := k
          refine aw_iald (ws_233 w) b8 d_X12_forceOf_60 ?_
          refine aw_aload_n (i := 0) rfl d_X12_forceOf_61 0 rfl ?_
          refine aw_getr (k0 := 47) kc_12 (ws_1 w) (Nat.le_of_ble_eq_true rfl) tw_1789 d_X12_forceOf_62 rfl (wr_1_47 w) ?_
          refine aw_bipush (v := 20) d_X12_forceOf_65 ib_20 ?_
          refine aw_iload_n (i := 1) rfl d_X12_forceOf_67 1 rfl ?_
          refine aw_imul d_X12_forceOf_68 ?_
          refine aw_iload d_X12_forceOf_69 4 rfl ?_
          refine aw_iadd d_X12_forceOf_71 ?_
          obtain ⟨b9, k⟩ := k
          refine aw_iald (ws_233 w) b9 d_X12_forceOf_72 ?_
          refine aw_icmp_lt (tgt := 80) d_X12_forceOf_73 rfl (fun c10 => ?_) (fun c10 => ?_)
          · have k := k.1 c10
            refine aw_iinc (v := (x5 + 1)) [(0, .ref 1), (1, .int x1), (2, .int x2), (3, .int x3), (4, .int x4), (5, .int (x5 + 1)), (6, .int ((20 * x1) + x5))] d_X12_forceOf_80 5 rfl rfl (Nat.le_of_ble_eq_true rfl) rfl rfl ?_
            refine aw_goto (tgt := 6) d_X12_forceOf_83 rfl ?_
            exact aw_lvp [0, 1, 2, 3, 4, 5] [(0, .ref 1), (1, .int x1), (2, .int x2), (3, .int x3), (4, .int x4), (5, .int (x5 + 1))] rfl k
          · have k := k.2 c10
            refine aw_iload d_X12_forceOf_76 5 rfl ?_
            refine aw_istore [(0, .ref 1), (1, .int x1), (2, .int x2), (3, .int x3), (4, .int x5), (5, .int x5), (6, .int ((20 * x1) + x5))] d_X12_forceOf_78 (Nat.le_of_ble_eq_true rfl) rfl rfl ?_
            refine aw_iinc (v := (x5 + 1)) [(0, .ref 1), (1, .int x1), (2, .int x2), (3, .int x3), (4, .int x5), (5, .int (x5 + 1)), (6, .int ((20 * x1) + x5))] d_X12_forceOf_80 5 rfl rfl (Nat.le_of_ble_eq_true rfl) rfl rfl ?_
            refine aw_goto (tgt := 6) d_X12_forceOf_83 rfl ?_
            exact aw_lvp [0, 1, 2, 3, 4, 5] [(0, .ref 1), (1, .int x1), (2, .int x2), (3, .int x3), (4, .int x5), (5, .int (x5 + 1))] rfl k
theorem t_X12_lets (d : Nat) (h : Hp_) (x1 : Int32) (x2 : Int32) (K : Int32 → Hp_ → Prop) (k : AW (m_X12_lets (d + 6) 0 0) 0 0 2 [(0, .ref 1), (1, .int x1), (2, .int x2), (3, .int 0)] [] h (kI K)) : Ci (m_X12_lets (d + 6) 0 0) [.ref 1, .int x1, .int x2] h K := by
  refine Ct.of (fun _ _ _ => trivial) rfl (Nat.le_of_ble_eq_true rfl) ?_
  show AW (m_X12_lets (d + 6) 0 0) 0 0 0 [(0, .ref 1), (1, .int x1), (2, .int x2)] [] h (kI K)
  refine aw_iconst (v := 0) d_X12_lets_0 ic_0 ?_
  refine aw_istore_n (i := 3) rfl [(0, .ref 1), (1, .int x1), (2, .int x2), (3, .int 0)] d_X12_lets_1 (Nat.le_of_ble_eq_true rfl) rfl rfl ?_
  exact k
theorem t_X12_lets_2 (d : Nat) (h : Hp_) (w : Wf h) (x1 : Int32) (x2 : Int32) (x3 : Int32) (K : Int32 → Hp_ → Prop) (k : (9 ≤ x3 → vp_in x1 300 ∧ (Ci (m_X12_forceOf (d + 0) 0 0) [.ref 1, .int 0, .int ((h_i h 257 x1.toNatClampNeg) / 1440), .int x2] h (fun r5 h3 => Wf h3 ∧ (Ci (m_X12_tell (d + 4) 0 0) [.ref 1, .int 0, .int r5] h3 (fun r8 h6 => Wf h6 ∧ (K r8 h6)))))) ∧ (¬ 9 ≤ x3 → Ci (m_X12_letterFor (d + 5) 0 0) [.int x3] h (fun r11 h9 => Wf h9 ∧ (vp_in ((9 * x1) + x3) 2700 ∧ (vp_in r11 128 ∧ (AW (m_X12_lets (d + 6) 0 0) 0 0 2 [(0, .ref 1), (1, .int x1), (2, .int x2), (3, .int (x3 + 1))] [] (h_im h9 236 r11.toNatClampNeg (h_i h9 261 (((9 * x1) + x3) : Int32).toNatClampNeg)) (kI K))))))) : AW (m_X12_lets (d + 6) 0 0) 0 0 2 [(0, .ref 1), (1, .int x1), (2, .int x2), (3, .int x3)] [] h (kI K) := by
  refine aw_iload_n (i := 3) rfl d_X12_lets_2 3 rfl ?_
  refine aw_bipush (v := 9) d_X12_lets_3 ib_9 ?_
  refine aw_icmp_ge (tgt := 34) d_X12_lets_5 rfl (fun c1 => ?_) (fun c1 => ?_)
  · have k := k.1 c1
    refine aw_aload_n (i := 0) rfl d_X12_lets_34 0 rfl ?_
    refine aw_iconst (v := 0) d_X12_lets_35 ic_0 ?_
    refine aw_aload_n (i := 0) rfl d_X12_lets_36 0 rfl ?_
    refine aw_iconst (v := 0) d_X12_lets_37 ic_0 ?_
    refine aw_aload_n (i := 0) rfl d_X12_lets_38 0 rfl ?_
    refine aw_getr (k0 := 74) kc_12 (ws_1 w) (Nat.le_of_ble_eq_true rfl) tw_1816 d_X12_lets_39 rfl (wr_1_74 w) ?_
    refine aw_iload_n (i := 1) rfl d_X12_lets_42 1 rfl ?_
    obtain ⟨b2, k⟩ := k
    refine aw_iald (ws_257 w) b2 d_X12_lets_43 ?_
    refine aw_sipush (v := 1440) d_X12_lets_44 is_1440 ?_
    refine aw_idiv d_X12_lets_47 (by decide) ?_
    refine aw_iload_n (i := 2) rfl d_X12_lets_48 2 rfl ?_
    refine aw_Vi 1 [.int 0, .int ((h_i h 257 x1.toNatClampNeg) / 1440), .int x2] [.int 0, .ref 1] d_X12_lets_49 (cV_X12_forceOf (d + 0) 0 0) kc_12 (ws_1 w) tw_2308 rfl (rr0 (Nat.le_of_ble_eq_true rfl) (Nat.le_of_ble_eq_true rfl)) (Nat.le_of_ble_eq_true rfl) xs0 k (fun r5 h3 kk => ?_)
    obtain ⟨w4, k⟩ := kk
    refine aw_Vi 1 [.int 0, .int r5] [] d_X12_lets_52 (cV_X12_tell (d + 4) 0 0) kc_12 (ws_1 w4) tw_2424 rfl (rr0 (Nat.le_of_ble_eq_true rfl) (Nat.le_of_ble_eq_true rfl)) (Nat.le_of_ble_eq_true rfl) xs0 k (fun r8 h6 kk => ?_)
    obtain ⟨w7, k⟩ := kk
    exact aw_iret rfl d_X12_lets_55 ⟨Nat.le_refl _, Nat.le_refl _⟩ ⟨_, rfl, k⟩
  · have k := k.2 c1
    refine aw_aload_n (i := 0) rfl d_X12_lets_8 0 rfl ?_
    refine aw_getr (k0 := 50) kc_12 (ws_1 w) (Nat.le_of_ble_eq_true rfl) tw_1792 d_X12_lets_9 rfl (wr_1_50 w) ?_
    refine aw_iload_n (i := 3) rfl d_X12_lets_12 3 rfl ?_
    refine aw_Si [.int x3] [.ref 236] d_X12_lets_13 (cS_X12_letterFor (d + 5) 0 0) tw_2400 rfl (rr0 (Nat.le_of_ble_eq_true rfl) (Nat.le_of_ble_eq_true rfl)) (Nat.le_of_ble_eq_true rfl) xs0 k (fun r11 h9 kk => ?_)
    obtain ⟨w10, k⟩ := kk
    refine aw_aload_n (i := 0) rfl d_X12_lets_16 0 rfl ?_
    refine aw_getr (k0 := 78) kc_12 (ws_1 w10) (Nat.le_of_ble_eq_true rfl) tw_1820 d_X12_lets_17 rfl (wr_1_78 w10) ?_
    refine aw_bipush (v := 9) d_X12_lets_20 ib_9 ?_
    refine aw_iload_n (i := 1) rfl d_X12_lets_22 1 rfl ?_
    refine aw_imul d_X12_lets_23 ?_
    refine aw_iload_n (i := 3) rfl d_X12_lets_24 3 rfl ?_
    refine aw_iadd d_X12_lets_25 ?_
    obtain ⟨b12, k⟩ := k
    refine aw_iald (ws_261 w10) b12 d_X12_lets_26 ?_
    obtain ⟨b13, k⟩ := k
    refine aw_iast (ws_236 w10) b13 d_X12_lets_27 ?_
    refine aw_iinc (v := (x3 + 1)) [(0, .ref 1), (1, .int x1), (2, .int x2), (3, .int (x3 + 1))] d_X12_lets_28 3 rfl rfl (Nat.le_of_ble_eq_true rfl) rfl rfl ?_
    refine aw_goto (tgt := 2) d_X12_lets_31 rfl ?_
    exact k
theorem t_X12_payOf (d : Nat) (h : Hp_) (x1 : Int32) (x2 : Int32) (x3 : Int32) (K : Int32 → Hp_ → Prop) (k : AW (m_X12_payOf (d + 7) 0 0) 0 0 9 [(0, .ref 1), (1, .int x1), (2, .int x2), (3, .int x3), (4, .int 0), (5, .int 0), (6, .int 0)] [] h (kI K)) : Ci (m_X12_payOf (d + 7) 0 0) [.ref 1, .int x1, .int x2, .int x3] h K := by
  refine Ct.of (fun _ _ _ => trivial) rfl (Nat.le_of_ble_eq_true rfl) ?_
  show AW (m_X12_payOf (d + 7) 0 0) 0 0 0 [(0, .ref 1), (1, .int x1), (2, .int x2), (3, .int x3)] [] h (kI K)
  refine aw_iconst (v := 0) d_X12_payOf_0 ic_0 ?_
  refine aw_istore [(0, .ref 1), (1, .int x1), (2, .int x2), (3, .int x3), (4, .int 0)] d_X12_payOf_1 (Nat.le_of_ble_eq_true rfl) rfl rfl ?_
  refine aw_iconst (v := 0) d_X12_payOf_3 ic_0 ?_
  refine aw_istore [(0, .ref 1), (1, .int x1), (2, .int x2), (3, .int x3), (4, .int 0), (5, .int 0)] d_X12_payOf_4 (Nat.le_of_ble_eq_true rfl) rfl rfl ?_
  refine aw_iconst (v := 0) d_X12_payOf_6 ic_0 ?_
  refine aw_istore [(0, .ref 1), (1, .int x1), (2, .int x2), (3, .int x3), (4, .int 0), (5, .int 0), (6, .int 0)] d_X12_payOf_7 (Nat.le_of_ble_eq_true rfl) rfl rfl ?_
  exact k
theorem t_X12_payOf_9 (d : Nat) (h : Hp_) (w : Wf h) (x1 : Int32) (x2 : Int32) (x3 : Int32) (x4 : Int32) (x5 : Int32) (x6 : Int32) (K : Int32 → Hp_ → Prop) (k : ((h_i h 1 63) ≤ x6 → AW (m_X12_payOf (d + 7) 0 0) 0 0 128 [(0, .ref 1), (1, .int x1), (2, .int x2), (3, .int x3), (4, .int x4), (5, .int x5), (6, .int 0), (7, .int 0), (8, .int 0)] [] h (kI K)) ∧ (¬ (h_i h 1 63) ≤ x6 → vp_in x6 400 ∧ ((¬ (h_i h 238 x6.toNatClampNeg) = x1 → AW (m_X12_payOf (d + 7) 0 0) 0 0 9 [(0, .ref 1), (1, .int x1), (2, .int x2), (3, .int x3), (4, .int x4), (5, .int x5), (6, .int (x6 + 1))] [] h (kI K)) ∧ ((h_i h 238 x6.toNatClampNeg) = x1 → vp_in x6 400 ∧ ((((h_i h 240 x6.toNatClampNeg) / 1440) = x2 → Ci (m_X12_stateOf (d + 0) 0 0) [.ref 1, .int x6, .int x3] h (fun r8 h6 => Wf h6 ∧ ((¬ r8 = 2 → (¬ r8 = 1 → AW (m_X12_payOf (d + 7) 0 0) 0 0 9 [(0, .ref 1), (1, .int x1), (2, .int x2), (3, .int x3), (4, .int (x4 + 0)), (5, .int (x5 + 0)), (6, .int (x6 + 1))] [] h6 (kI K)) ∧ (r8 = 1 → AW (m_X12_payOf (d + 7) 0 0) 0 0 9 [(0, .ref 1), (1, .int x1), (2, .int x2), (3, .int x3), (4, .int (x4 + 1)), (5, .int (x5 + 0)), (6, .int (x6 + 1))] [] h6 (kI K))) ∧ (r8 = 2 → Ci (m_X12_causeOf (d + 0) 0 0) [.ref 1, .int x6, .int x3] h6 (fun r17 h15 => Wf h15 ∧ ((¬ r8 = 1 → (r17 = 1 → AW (m_X12_payOf (d + 7) 0 0) 0 0 9 [(0, .ref 1), (1, .int x1), (2, .int x2), (3, .int x3), (4, .int (x4 + 0)), (5, .int (x5 + 1)), (6, .int (x6 + 1))] [] h15 (kI K)) ∧ (¬ r17 = 1 → (r17 < 5 → AW (m_X12_payOf (d + 7) 0 0) 0 0 9 [(0, .ref 1), (1, .int x1), (2, .int x2), (3, .int x3), (4, .int (x4 + 0)), (5, .int (x5 + 0)), (6, .int (x6 + 1))] [] h15 (kI K)) ∧ (¬ r17 < 5 → AW (m_X12_payOf (d + 7) 0 0) 0 0 9 [(0, .ref 1), (1, .int x1), (2, .int x2), (3, .int x3), (4, .int (x4 + 0)), (5, .int (x5 + 1)), (6, .int (x6 + 1))] [] h15 (kI K)))) ∧ (r8 = 1 → (r17 = 1 → AW (m_X12_payOf (d + 7) 0 0) 0 0 9 [(0, .ref 1), (1, .int x1), (2, .int x2), (3, .int x3), (4, .int (x4 + 1)), (5, .int (x5 + 1)), (6, .int (x6 + 1))] [] h15 (kI K)) ∧ (¬ r17 = 1 → (r17 < 5 → AW (m_X12_payOf (d + 7) 0 0) 0 0 9 [(0, .ref 1), (1, .int x1), (2, .int x2), (3, .int x3), (4, .int (x4 + 1)), (5, .int (x5 + 0)), (6, .int (x6 + 1))] [] h15 (kI K)) ∧ (¬ r17 < 5 → AW (m_X12_payOf (d + 7) 0 0) 0 0 9 [(0, .ref 1), (1, .int x1), (2, .int x2), (3, .int x3), (4, .int (x4 + 1)), (5, .int (x5 + 1)), (6, .int (x6 + 1))] [] h15 (kI K)))))))))) ∧ (¬ ((h_i h 240 x6.toNatClampNeg) / 1440) = x2 → AW (m_X12_payOf (d + 7) 0 0) 0 0 9 [(0, .ref 1), (1, .int x1), (2, .int x2), (3, .int x3), (4, .int x4), (5, .int x5), (6, .int (x6 + 1))] [] h (kI K))))))) : AW (m_X12_payOf (d + 7) 0 0) 0 0 9 [(0, .ref 1), (1, .int x1), (2, .int x2), (3, .int x3), (4, .int x4), (5, .int x5), (6, .int x6)] [] h (kI K) := by
  refine aw_iload d_X12_payOf_9 6 rfl ?_
  refine aw_aload_n (i := 0) rfl d_X12_payOf_11 0 rfl ?_
  refine aw_geti (k0 := 63) kc_12 (ws_1 w) (Nat.le_of_ble_eq_true rfl) tw_1805 d_X12_payOf_12 rfl ?_
  refine aw_icmp_ge (tgt := 119) d_X12_payOf_15 rfl (fun c1 => ?_) (fun c1 => ?_)
  · have k := k.1 c1
    refine aw_iconst (v := 0) d_X12_payOf_119 ic_0 ?_
    refine aw_istore [(0, .ref 1), (1, .int x1), (2, .int x2), (3, .int x3), (4, .int x4), (5, .int x5), (6, .int 0)] d_X12_payOf_120 (Nat.le_of_ble_eq_true rfl) rfl rfl ?_
    refine aw_iconst (v := 0) d_X12_payOf_122 ic_0 ?_
    refine aw_istore [(0, .ref 1), (1, .int x1), (2, .int x2), (3, .int x3), (4, .int x4), (5, .int x5), (6, .int 0), (7, .int 0)] d_X12_payOf_123 (Nat.le_of_ble_eq_true rfl) rfl rfl ?_
    refine aw_iconst (v := 0) d_X12_payOf_125 ic_0 ?_
    refine aw_istore [(0, .ref 1), (1, .int x1), (2, .int x2), (3, .int x3), (4, .int x4), (5, .int x5), (6, .int 0), (7, .int 0), (8, .int 0)] d_X12_payOf_126 (Nat.le_of_ble_eq_true rfl) rfl rfl ?_
    exact k
  · have k := k.2 c1
    refine aw_aload_n (i := 0) rfl d_X12_payOf_18 0 rfl ?_
    refine aw_getr (k0 := 53) kc_12 (ws_1 w) (Nat.le_of_ble_eq_true rfl) tw_1795 d_X12_payOf_19 rfl (wr_1_53 w) ?_
    refine aw_iload d_X12_payOf_22 6 rfl ?_
    obtain ⟨b2, k⟩ := k
    refine aw_iald (ws_238 w) b2 d_X12_payOf_24 ?_
    refine aw_iload_n (i := 1) rfl d_X12_payOf_25 1 rfl ?_
    refine aw_icmp_ne (tgt := 113) d_X12_payOf_26 rfl (fun c3 => ?_) (fun c3 => ?_)
    · have k := k.1 c3
      refine aw_iinc (v := (x6 + 1)) [(0, .ref 1), (1, .int x1), (2, .int x2), (3, .int x3), (4, .int x4), (5, .int x5), (6, .int (x6 + 1))] d_X12_payOf_113 6 rfl rfl (Nat.le_of_ble_eq_true rfl) rfl rfl ?_
      refine aw_goto (tgt := 9) d_X12_payOf_116 rfl ?_
      exact k
    · have k := k.2 c3
      refine aw_aload_n (i := 0) rfl d_X12_payOf_29 0 rfl ?_
      refine aw_getr (k0 := 55) kc_12 (ws_1 w) (Nat.le_of_ble_eq_true rfl) tw_1797 d_X12_payOf_30 rfl (wr_1_55 w) ?_
      refine aw_iload d_X12_payOf_33 6 rfl ?_
      obtain ⟨b4, k⟩ := k
      refine aw_iald (ws_240 w) b4 d_X12_payOf_35 ?_
      refine aw_sipush (v := 1440) d_X12_payOf_36 is_1440 ?_
      refine aw_idiv d_X12_payOf_39 (by decide) ?_
      refine aw_iload_n (i := 2) rfl d_X12_payOf_40 2 rfl ?_
      refine aw_icmp_eq (tgt := 47) d_X12_payOf_41 rfl (fun c5 => ?_) (fun c5 => ?_)
      · have k := k.1 c5
        refine aw_aload_n (i := 0) rfl d_X12_payOf_47 0 rfl ?_
        refine aw_iload d_X12_payOf_48 6 rfl ?_
        refine aw_iload_n (i := 3) rfl d_X12_payOf_50 3 rfl ?_
        refine aw_Vi 1 [.int x6, .int x3] [] d_X12_payOf_51 (cV_X12_stateOf (d + 0) 0 0) kc_12 (ws_1 w) tw_2316 rfl (rr0 (Nat.le_of_ble_eq_true rfl) (Nat.le_of_ble_eq_true rfl)) (Nat.le_of_ble_eq_true rfl) xs0 k (fun r8 h6 kk => ?_)
        obtain ⟨w7, k⟩ := kk
        refine aw_istore [(0, .ref 1), (1, .int x1), (2, .int x2), (3, .int x3), (4, .int x4), (5, .int x5), (6, .int x6), (7, .int r8)] d_X12_payOf_54 (Nat.le_of_ble_eq_true rfl) rfl rfl ?_
        refine aw_iload d_X12_payOf_56 7 rfl ?_
        refine aw_iconst (v := 2) d_X12_payOf_58 ic_2 ?_
        refine aw_icmp_ne (tgt := 72) d_X12_payOf_59 rfl (fun c9 => ?_) (fun c9 => ?_)
        · have k := k.1 c9
          refine aw_iconst (v := 0) d_X12_payOf_72 ic_0 ?_
          refine aw_istore [(0, .ref 1), (1, .int x1), (2, .int x2), (3, .int x3), (4, .int x4), (5, .int x5), (6, .int x6), (7, .int r8), (8, .int 0)] d_X12_payOf_73 (Nat.le_of_ble_eq_true rfl) rfl rfl ?_
          refine aw_iload d_X12_payOf_75 4 rfl ?_
          refine aw_iload d_X12_payOf_77 7 rfl ?_
          refine aw_iconst (v := 1) d_X12_payOf_79 ic_1 ?_
          refine aw_icmp_ne (tgt := 87) d_X12_payOf_80 rfl (fun c10 => ?_) (fun c10 => ?_)
          · have k := k.1 c10
            refine aw_iconst (v := 0) d_X12_payOf_87 ic_0 ?_
            refine aw_iadd d_X12_payOf_88 ?_
            refine aw_istore [(0, .ref 1), (1, .int x1), (2, .int x2), (3, .int x3), (4, .int (x4 + 0)), (5, .int x5), (6, .int x6), (7, .int r8), (8, .int 0)] d_X12_payOf_89 (Nat.le_of_ble_eq_true rfl) rfl rfl ?_
            refine aw_iload d_X12_payOf_91 5 rfl ?_
            refine aw_iload d_X12_payOf_93 8 rfl ?_
            refine aw_iconst (v := 1) d_X12_payOf_95 ic_1 ?_
            refine aw_icmp_eq (tgt := 105) d_X12_payOf_96 rfl (fun c => absurd c (by decide)) (fun _ => ?_)
            refine aw_iload d_X12_payOf_99 8 rfl ?_
            refine aw_iconst (v := 5) d_X12_payOf_101 ic_5 ?_
            refine aw_icmp_lt (tgt := 109) d_X12_payOf_102 rfl (fun _ => ?_) (fun c => absurd c (by decide))
            refine aw_iconst (v := 0) d_X12_payOf_109 ic_0 ?_
            refine aw_iadd d_X12_payOf_110 ?_
            refine aw_istore [(0, .ref 1), (1, .int x1), (2, .int x2), (3, .int x3), (4, .int (x4 + 0)), (5, .int (x5 + 0)), (6, .int x6), (7, .int r8), (8, .int 0)] d_X12_payOf_111 (Nat.le_of_ble_eq_true rfl) rfl rfl ?_
            refine aw_iinc (v := (x6 + 1)) [(0, .ref 1), (1, .int x1), (2, .int x2), (3, .int x3), (4, .int (x4 + 0)), (5, .int (x5 + 0)), (6, .int (x6 + 1)), (7, .int r8), (8, .int 0)] d_X12_payOf_113 6 rfl rfl (Nat.le_of_ble_eq_true rfl) rfl rfl ?_
            refine aw_goto (tgt := 9) d_X12_payOf_116 rfl ?_
            exact aw_lvp [0, 1, 2, 3, 4, 5, 6] [(0, .ref 1), (1, .int x1), (2, .int x2), (3, .int x3), (4, .int (x4 + 0)), (5, .int (x5 + 0)), (6, .int (x6 + 1))] rfl k
          · have k := k.2 c10
            refine aw_iconst (v := 1) d_X12_payOf_83 ic_1 ?_
            refine aw_goto (tgt := 88) d_X12_payOf_84 rfl ?_
            refine aw_iadd d_X12_payOf_88 ?_
            refine aw_istore [(0, .ref 1), (1, .int x1), (2, .int x2), (3, .int x3), (4, .int (x4 + 1)), (5, .int x5), (6, .int x6), (7, .int r8), (8, .int 0)] d_X12_payOf_89 (Nat.le_of_ble_eq_true rfl) rfl rfl ?_
            refine aw_iload d_X12_payOf_91 5 rfl ?_
            refine aw_iload d_X12_payOf_93 8 rfl ?_
            refine aw_iconst (v := 1) d_X12_payOf_95 ic_1 ?_
            refine aw_icmp_eq (tgt := 105) d_X12_payOf_96 rfl (fun c => absurd c (by decide)) (fun _ => ?_)
            refine aw_iload d_X12_payOf_99 8 rfl ?_
            refine aw_iconst (v := 5) d_X12_payOf_101 ic_5 ?_
            refine aw_icmp_lt (tgt := 109) d_X12_payOf_102 rfl (fun _ => ?_) (fun c => absurd c (by decide))
            refine aw_iconst (v := 0) d_X12_payOf_109 ic_0 ?_
            refine aw_iadd d_X12_payOf_110 ?_
            refine aw_istore [(0, .ref 1), (1, .int x1), (2, .int x2), (3, .int x3), (4, .int (x4 + 1)), (5, .int (x5 + 0)), (6, .int x6), (7, .int r8), (8, .int 0)] d_X12_payOf_111 (Nat.le_of_ble_eq_true rfl) rfl rfl ?_
            refine aw_iinc (v := (x6 + 1)) [(0, .ref 1), (1, .int x1), (2, .int x2), (3, .int x3), (4, .int (x4 + 1)), (5, .int (x5 + 0)), (6, .int (x6 + 1)), (7, .int r8), (8, .int 0)] d_X12_payOf_113 6 rfl rfl (Nat.le_of_ble_eq_true rfl) rfl rfl ?_
            refine aw_goto (tgt := 9) d_X12_payOf_116 rfl ?_
            exact aw_lvp [0, 1, 2, 3, 4, 5, 6] [(0, .ref 1), (1, .int x1), (2, .int x2), (3, .int x3), (4, .int (x4 + 1)), (5, .int (x5 + 0)), (6, .int (x6 + 1))] rfl k
        · have k := k.2 c9
          refine aw_aload_n (i := 0) rfl d_X12_payOf_62 0 rfl ?_
          refine aw_iload d_X12_payOf_63 6 rfl ?_
          refine aw_iload_n (i := 3) rfl d_X12_payOf_65 3 rfl ?_
          refine aw_Vi 1 [.int x6, .int x3] [] d_X12_payOf_66 (cV_X12_causeOf (d + 0) 0 0) kc_12 (ws_1 w7) tw_2320 rfl (rr0 (Nat.le_of_ble_eq_true rfl) (Nat.le_of_ble_eq_true rfl)) (Nat.le_of_ble_eq_true rfl) xs0 k (fun r17 h15 kk => ?_)
          obtain ⟨w16, k⟩ := kk
          refine aw_goto (tgt := 73) d_X12_payOf_69 rfl ?_
          refine aw_istore [(0, .ref 1), (1, .int x1), (2, .int x2), (3, .int x3), (4, .int x4), (5, .int x5), (6, .int x6), (7, .int r8), (8, .int r17)] d_X12_payOf_73 (Nat.le_of_ble_eq_true rfl) rfl rfl ?_
          refine aw_iload d_X12_payOf_75 4 rfl ?_
          refine aw_iload d_X12_payOf_77 7 rfl ?_
          refine aw_iconst (v := 1) d_X12_payOf_79 ic_1 ?_
          refine aw_icmp_ne (tgt := 87) d_X12_payOf_80 rfl (fun c18 => ?_) (fun c18 => ?_)
          · have k := k.1 c18
            refine aw_iconst (v := 0) d_X12_payOf_87 ic_0 ?_
            refine aw_iadd d_X12_payOf_88 ?_
            refine aw_istore [(0, .ref 1), (1, .int x1), (2, .int x2), (3, .int x3), (4, .int (x4 + 0)), (5, .int x5), (6, .int x6), (7, .int r8), (8, .int r17)] d_X12_payOf_89 (Nat.le_of_ble_eq_true rfl) rfl rfl ?_
            refine aw_iload d_X12_payOf_91 5 rfl ?_
            refine aw_iload d_X12_payOf_93 8 rfl ?_
            refine aw_iconst (v := 1) d_X12_payOf_95 ic_1 ?_
            refine aw_icmp_eq (tgt := 105) d_X12_payOf_96 rfl (fun c19 => ?_) (fun c19 => ?_)
            · have k := k.1 c19
              refine aw_iconst (v := 1) d_X12_payOf_105 ic_1 ?_
              refine aw_goto (tgt := 110) d_X12_payOf_106 rfl ?_
              refine aw_iadd d_X12_payOf_110 ?_
              refine aw_istore [(0, .ref 1), (1, .int x1), (2, .int x2), (3, .int x3), (4, .int (x4 + 0)), (5, .int (x5 + 1)), (6, .int x6), (7, .int r8), (8, .int r17)] d_X12_payOf_111 (Nat.le_of_ble_eq_true rfl) rfl rfl ?_
              refine aw_iinc (v := (x6 + 1)) [(0, .ref 1), (1, .int x1), (2, .int x2), (3, .int x3), (4, .int (x4 + 0)), (5, .int (x5 + 1)), (6, .int (x6 + 1)), (7, .int r8), (8, .int r17)] d_X12_payOf_113 6 rfl rfl (Nat.le_of_ble_eq_true rfl) rfl rfl ?_
              refine aw_goto (tgt := 9) d_X12_payOf_116 rfl ?_
              exact aw_lvp [0, 1, 2, 3, 4, 5, 6] [(0, .ref 1), (1, .int x1), (2, .int x2), (3, .int x3), (4, .int (x4 + 0)), (5, .int (x5 + 1)), (6, .int (x6 + 1))] rfl k
            · have k := k.2 c19
              refine aw_iload d_X12_payOf_99 8 rfl ?_
              refine aw_iconst (v := 5) d_X12_payOf_101 ic_5 ?_
              refine aw_icmp_lt (tgt := 109) d_X12_payOf_102 rfl (fun c20 => ?_) (fun c20 => ?_)
              · have k := k.1 c20
                refine aw_iconst (v := 0) d_X12_payOf_109 ic_0 ?_
                refine aw_iadd d_X12_payOf_110 ?_
                refine aw_istore [(0, .ref 1), (1, .int x1), (2, .int x2), (3, .int x3), (4, .int (x4 + 0)), (5, .int (x5 + 0)), (6, .int x6), (7, .int r8), (8, .int r17)] d_X12_payOf_111 (Nat.le_of_ble_eq_true rfl) rfl rfl ?_
                refine aw_iinc (v := (x6 + 1)) [(0, .ref 1), (1, .int x1), (2, .int x2), (3, .int x3), (4, .int (x4 + 0)), (5, .int (x5 + 0)), (6, .int (x6 + 1)), (7, .int r8), (8, .int r17)] d_X12_payOf_113 6 rfl rfl (Nat.le_of_ble_eq_true rfl) rfl rfl ?_
                refine aw_goto (tgt := 9) d_X12_payOf_116 rfl ?_
                exact aw_lvp [0, 1, 2, 3, 4, 5, 6] [(0, .ref 1), (1, .int x1), (2, .int x2), (3, .int x3), (4, .int (x4 + 0)), (5, .int (x5 + 0)), (6, .int (x6 + 1))] rfl k
              · have k := k.2 c20
                refine aw_iconst (v := 1) d_X12_payOf_105 ic_1 ?_
                refine aw_goto (tgt := 110) d_X12_payOf_106 rfl ?_
                refine aw_iadd d_X12_payOf_110 ?_
                refine aw_istore [(0, .ref 1), (1, .int x1), (2, .int x2), (3, .int x3), (4, .int (x4 + 0)), (5, .int (x5 + 1)), (6, .int x6), (7, .int r8), (8, .int r17)] d_X12_payOf_111 (Nat.le_of_ble_eq_true rfl) rfl rfl ?_
                refine aw_iinc (v := (x6 + 1)) [(0, .ref 1), (1, .int x1), (2, .int x2), (3, .int x3), (4, .int (x4 + 0)), (5, .int (x5 + 1)), (6, .int (x6 + 1)), (7, .int r8), (8, .int r17)] d_X12_payOf_113 6 rfl rfl (Nat.le_of_ble_eq_true rfl) rfl rfl ?_
                refine aw_goto (tgt := 9) d_X12_payOf_116 rfl ?_
                exact aw_lvp [0, 1, 2, 3, 4, 5, 6] [(0, .ref 1), (1, .int x1), (2, .int x2), (3, .int x3), (4, .int (x4 + 0)), (5, .int (x5 + 1)), (6, .int (x6 + 1))] rfl k
          · have k := k.2 c18
            refine aw_iconst (v := 1) d_X12_payOf_83 ic_1 ?_
            refine aw_goto (tgt := 88) d_X12_payOf_84 rfl ?_
            refine aw_iadd d_X12_payOf_88 ?_
            refine aw_istore [(0, .ref 1), (1, .int x1), (2, .int x2), (3, .int x3), (4, .int (x4 + 1)), (5, .int x5), (6, .int x6), (7, .int r8), (8, .int r17)] d_X12_payOf_89 (Nat.le_of_ble_eq_true rfl) rfl rfl ?_
            refine aw_iload d_X12_payOf_91 5 rfl ?_
            refine aw_iload d_X12_payOf_93 8 rfl ?_
            refine aw_iconst (v := 1) d_X12_payOf_95 ic_1 ?_
            refine aw_icmp_eq (tgt := 105) d_X12_payOf_96 rfl (fun c21 => ?_) (fun c21 => ?_)
            · have k := k.1 c21
              refine aw_iconst (v := 1) d_X12_payOf_105 ic_1 ?_
              refine aw_goto (tgt := 110) d_X12_payOf_106 rfl ?_
              refine aw_iadd d_X12_payOf_110 ?_
              refine aw_istore [(0, .ref 1), (1, .int x1), (2, .int x2), (3, .int x3), (4, .int (x4 + 1)), (5, .int (x5 + 1)), (6, .int x6), (7, .int r8), (8, .int r17)] d_X12_payOf_111 (Nat.le_of_ble_eq_true rfl) rfl rfl ?_
              refine aw_iinc (v := (x6 + 1)) [(0, .ref 1), (1, .int x1), (2, .int x2), (3, .int x3), (4, .int (x4 + 1)), (5, .int (x5 + 1)), (6, .int (x6 + 1)), (7, .int r8), (8, .int r17)] d_X12_payOf_113 6 rfl rfl (Nat.le_of_ble_eq_true rfl) rfl rfl ?_
              refine aw_goto (tgt := 9) d_X12_payOf_116 rfl ?_
              exact aw_lvp [0, 1, 2, 3, 4, 5, 6] [(0, .ref 1), (1, .int x1), (2, .int x2), (3, .int x3), (4, .int (x4 + 1)), (5, .int (x5 + 1)), (6, .int (x6 + 1))] rfl k
            · have k := k.2 c21
              refine aw_iload d_X12_payOf_99 8 rfl ?_
              refine aw_iconst (v := 5) d_X12_payOf_101 ic_5 ?_
              refine aw_icmp_lt (tgt := 109) d_X12_payOf_102 rfl (fun c22 => ?_) (fun c22 => ?_)
              · have k := k.1 c22
                refine aw_iconst (v := 0) d_X12_payOf_109 ic_0 ?_
                refine aw_iadd d_X12_payOf_110 ?_
                refine aw_istore [(0, .ref 1), (1, .int x1), (2, .int x2), (3, .int x3), (4, .int (x4 + 1)), (5, .int (x5 + 0)), (6, .int x6), (7, .int r8), (8, .int r17)] d_X12_payOf_111 (Nat.le_of_ble_eq_true rfl) rfl rfl ?_
                refine aw_iinc (v := (x6 + 1)) [(0, .ref 1), (1, .int x1), (2, .int x2), (3, .int x3), (4, .int (x4 + 1)), (5, .int (x5 + 0)), (6, .int (x6 + 1)), (7, .int r8), (8, .int r17)] d_X12_payOf_113 6 rfl rfl (Nat.le_of_ble_eq_true rfl) rfl rfl ?_
                refine aw_goto (tgt := 9) d_X12_payOf_116 rfl ?_
                exact aw_lvp [0, 1, 2, 3, 4, 5, 6] [(0, .ref 1), (1, .int x1), (2, .int x2), (3, .int x3), (4, .int (x4 + 1)), (5, .int (x5 + 0)), (6, .int (x6 + 1))] rfl k
              · have k := k.2 c22
                refine aw_iconst (v := 1) d_X12_payOf_105 ic_1 ?_
                refine aw_goto (tgt := 110) d_X12_payOf_106 rfl ?_
                refine aw_iadd d_X12_payOf_110 ?_
                refine aw_istore [(0, .ref 1), (1, .int x1), (2, .int x2), (3, .int x3), (4, .int (x4 + 1)), (5, .int (x5 + 1)), (6, .int x6), (7, .int r8), (8, .int r17)] d_X12_payOf_111 (Nat.le_of_ble_eq_true rfl) rfl rfl ?_
                refine aw_iinc (v := (x6 + 1)) [(0, .ref 1), (1, .int x1), (2, .int x2), (3, .int x3), (4, .int (x4 + 1)), (5, .int (x5 + 1)), (6, .int (x6 + 1)), (7, .int r8), (8, .int r17)] d_X12_payOf_113 6 rfl rfl (Nat.le_of_ble_eq_true rfl) rfl rfl ?_
                refine aw_goto (tgt := 9) d_X12_payOf_116 rfl ?_
                exact aw_lvp [0, 1, 2, 3, 4, 5, 6] [(0, .ref 1), (1, .int x1), (2, .int x2), (3, .int x3), (4, .int (x4 + 1)), (5, .int (x5 + 1)), (6, .int (x6 + 1))] rfl k
      · have k := k.2 c5
        refine aw_goto (tgt := 113) d_X12_payOf_44 rfl ?_
        refine aw_iinc (v := (x6 + 1)) [(0, .ref 1), (1, .int x1), (2, .int x2), (3, .int x3), (4, .int x4), (5, .int x5), (6, .int (x6 + 1))] d_X12_payOf_113 6 rfl rfl (Nat.le_of_ble_eq_true rfl) rfl rfl ?_
        refine aw_goto (tgt := 9) d_X12_payOf_116 rfl ?_
        exact k
theorem t_X12_payOf_128 (d : Nat) (h : Hp_) (w : Wf h) (x1 : Int32) (x2 : Int32) (x3 : Int32) (x4 : Int32) (x5 : Int32) (x6 : Int32) (x7 : Int32) (x8 : Int32) (K : Int32 → Hp_ → Prop) (k : ((h_i h 1 80) ≤ x8 → Ci (m_X12_rankOn (d + 0) 0 0) [.ref 1, .int x1, .int x2, .int x3] h (fun r26 h24 => Wf h24 ∧ (vp_in 99 128 ∧ (vp_in x1 12 ∧ (vp_in 121 128 ∧ (vp_in 109 128 ∧ (vp_in 120 128 ∧ (vp_in 116 128 ∧ (vp_in 97 128 ∧ (Ci (m_X12_forceOf (d + 0) 0 0) [.ref 1, .int 1, .int x2, .int x3] (h_im (h_im (h_im (h_im (h_im (h_im h24 236 (99 : Int32).toNatClampNeg r26) 236 (121 : Int32).toNatClampNeg (h_i h24 205 x1.toNatClampNeg)) 236 (109 : Int32).toNatClampNeg x4) 236 (120 : Int32).toNatClampNeg x5) 236 (116 : Int32).toNatClampNeg x6) 236 (97 : Int32).toNatClampNeg x7) (fun r36 h34 => Wf h34 ∧ (Ci (m_X12_tell (d + 4) 0 0) [.ref 1, .int 1, .int r36] h34 (fun r39 h37 => Wf h37 ∧ (K (if 0 < (if r39 < 10000 then r39 else 10000) then (if r39 < 10000 then r39 else 10000) else 0) h37)))))))))))))) ∧ (¬ (h_i h 1 80) ≤ x8 → vp_in x8 300 ∧ ((¬ (h_i h 255 x8.toNatClampNeg) = x1 → AW (m_X12_payOf (d + 7) 0 0) 0 0 128 [(0, .ref 1), (1, .int x1), (2, .int x2), (3, .int x3), (4, .int x4), (5, .int x5), (6, .int x6), (7, .int x7), (8, .int (x8 + 1))] [] h (kI K)) ∧ ((h_i h 255 x8.toNatClampNeg) = x1 → vp_in x8 300 ∧ ((¬ ((h_i h 257 x8.toNatClampNeg) / 1440) = x2 → AW (m_X12_payOf (d + 7) 0 0) 0 0 128 [(0, .ref 1), (1, .int x1), (2, .int x2), (3, .int x3), (4, .int x4), (5, .int x5), (6, .int x6), (7, .int x7), (8, .int (x8 + 1))] [] h (kI K)) ∧ (((h_i h 257 x8.toNatClampNeg) / 1440) = x2 → vp_in x8 300 ∧ ((¬ (h_i h 258 x8.toNatClampNeg) = 3 → AW (m_X12_payOf (d + 7) 0 0) 0 0 128 [(0, .ref 1), (1, .int x1), (2, .int x2), (3, .int x3), (4, .int x4), (5, .int x5), (6, .int x6), (7, .int x7), (8, .int (x8 + 1))] [] h (kI K)) ∧ ((h_i h 258 x8.toNatClampNeg) = 3 → Ci (m_X12_lets (d + 6) 0 0) [.ref 1, .int x8, .int x3] h (fun r48 h46 => Wf h46 ∧ ((¬ r48 = 3 → AW (m_X12_payOf (d + 7) 0 0) 0 0 128 [(0, .ref 1), (1, .int x1), (2, .int x2), (3, .int x3), (4, .int x4), (5, .int x5), (6, .int (x6 + 0)), (7, .int (x7 + 1)), (8, .int (x8 + 1))] [] h46 (kI K)) ∧ (r48 = 3 → AW (m_X12_payOf (d + 7) 0 0) 0 0 128 [(0, .ref 1), (1, .int x1), (2, .int x2), (3, .int x3), (4, .int x4), (5, .int x5), (6, .int (x6 + 1)), (7, .int (x7 + 0)), (8, .int (x8 + 1))] [] h46 (kI K)))))))))))) : AW (m_X12_payOf (d + 7) 0 0) 0 0 128 [(0, .ref 1), (1, .int x1), (2, .int x2), (3, .int x3), (4, .int x4), (5, .int x5), (6, .int x6), (7, .int x7), (8, .int x8)] [] h (kI K) := by
  refine aw_iload d_X12_payOf_128 8 rfl ?_
  refine aw_aload_n (i := 0) rfl d_X12_payOf_130 0 rfl ?_
  refine aw_geti (k0 := 80) kc_12 (ws_1 w) (Nat.le_of_ble_eq_true rfl) tw_1822 d_X12_payOf_131 rfl ?_
  refine aw_icmp_ge (tgt := 228) d_X12_payOf_134 rfl (fun c23 => ?_) (fun c23 => ?_)
  · have k := k.1 c23
    refine aw_aload_n (i := 0) rfl d_X12_payOf_228 0 rfl ?_
    refine aw_getr (k0 := 50) kc_12 (ws_1 w) (Nat.le_of_ble_eq_true rfl) tw_1792 d_X12_payOf_229 rfl (wr_1_50 w) ?_
    refine aw_bipush (v := 99) d_X12_payOf_232 ib_99 ?_
    refine aw_aload_n (i := 0) rfl d_X12_payOf_234 0 rfl ?_
    refine aw_iload_n (i := 1) rfl d_X12_payOf_235 1 rfl ?_
    refine aw_iload_n (i := 2) rfl d_X12_payOf_236 2 rfl ?_
    refine aw_iload_n (i := 3) rfl d_X12_payOf_237 3 rfl ?_
    refine aw_Vi 1 [.int x1, .int x2, .int x3] [.int 99, .ref 236] d_X12_payOf_238 (cV_X12_rankOn (d + 0) 0 0) kc_12 (ws_1 w) tw_2175 rfl (rr0 (Nat.le_of_ble_eq_true rfl) (Nat.le_of_ble_eq_true rfl)) (Nat.le_of_ble_eq_true rfl) xs0 k (fun r26 h24 kk => ?_)
    obtain ⟨w25, k⟩ := kk
    obtain ⟨b27, k⟩ := k
    refine aw_iast (ws_236 w25) b27 d_X12_payOf_241 ?_
    refine aw_aload_n (i := 0) rfl d_X12_payOf_242 0 rfl ?_
    refine aw_getr (k0 := 50) kc_12 (ws_1 w25) (Nat.le_of_ble_eq_true rfl) tw_1792 d_X12_payOf_243 rfl (wr_1_50 w25) ?_
    refine aw_bipush (v := 121) d_X12_payOf_246 ib_121 ?_
    refine aw_aload_n (i := 0) rfl d_X12_payOf_248 0 rfl ?_
    refine aw_getr (k0 := 9) kc_12 (ws_1 w25) (Nat.le_of_ble_eq_true rfl) tw_1751 d_X12_payOf_249 rfl (wr_1_9 w25) ?_
    refine aw_iload_n (i := 1) rfl d_X12_payOf_252 1 rfl ?_
    obtain ⟨b28, k⟩ := k
    refine aw_iald (ws_205 w25) b28 d_X12_payOf_253 ?_
    refine aw_vi (v2 := (h_i h24 205 x1.toNatClampNeg)) (rfl) ?_
    obtain ⟨b29, k⟩ := k
    refine aw_iast (ws_236 w25) b29 d_X12_payOf_254 ?_
    refine aw_aload_n (i := 0) rfl d_X12_payOf_255 0 rfl ?_
    refine aw_getr (k0 := 50) kc_12 (ws_1 w25) (Nat.le_of_ble_eq_true rfl) tw_1792 d_X12_payOf_256 rfl (wr_1_50 w25) ?_
    refine aw_bipush (v := 109) d_X12_payOf_259 ib_109 ?_
    refine aw_iload d_X12_payOf_261 4 rfl ?_
    obtain ⟨b30, k⟩ := k
    refine aw_iast (ws_236 w25) b30 d_X12_payOf_263 ?_
    refine aw_aload_n (i := 0) rfl d_X12_payOf_264 0 rfl ?_
    refine aw_getr (k0 := 50) kc_12 (ws_1 w25) (Nat.le_of_ble_eq_true rfl) tw_1792 d_X12_payOf_265 rfl (wr_1_50 w25) ?_
    refine aw_bipush (v := 120) d_X12_payOf_268 ib_120 ?_
    refine aw_iload d_X12_payOf_270 5 rfl ?_
    obtain ⟨b31, k⟩ := k
    refine aw_iast (ws_236 w25) b31 d_X12_payOf_272 ?_
    refine aw_aload_n (i := 0) rfl d_X12_payOf_273 0 rfl ?_
    refine aw_getr (k0 := 50) kc_12 (ws_1 w25) (Nat.le_of_ble_eq_true rfl) tw_1792 d_X12_payOf_274 rfl (wr_1_50 w25) ?_
    refine aw_bipush (v := 116) d_X12_payOf_277 ib_116 ?_
    refine aw_iload d_X12_payOf_279 6 rfl ?_
    obtain ⟨b32, k⟩ := k
    refine aw_iast (ws_236 w25) b32 d_X12_payOf_281 ?_
    refine aw_aload_n (i := 0) rfl d_X12_payOf_282 0 rfl ?_
    refine aw_getr (k0 := 50) kc_12 (ws_1 w25) (Nat.le_of_ble_eq_true rfl) tw_1792 d_X12_payOf_283 rfl (wr_1_50 w25) ?_
    refine aw_bipush (v := 97) d_X12_payOf_286 ib_97 ?_
    refine aw_iload d_X12_payOf_288 7 rfl ?_
    obtain ⟨b33, k⟩ := k
    refine aw_iast (ws_236 w25) b33 d_X12_payOf_290 ?_
    refine aw_iconst (v := 0) d_X12_payOf_291 ic_0 ?_
    refine aw_sipush (v := 10000) d_X12_payOf_292 is_10000 ?_
    refine aw_aload_n (i := 0) rfl d_X12_payOf_295 0 rfl ?_
    refine aw_iconst (v := 1) d_X12_payOf_296 ic_1 ?_
    refine aw_aload_n (i := 0) rfl d_X12_payOf_297 0 rfl ?_
    refine aw_iconst (v := 1) d_X12_payOf_298 ic_1 ?_
    refine aw_iload_n (i := 2) rfl d_X12_payOf_299 2 rfl ?_
    refine aw_iload_n (i := 3) rfl d_X12_payOf_300 3 rfl ?_
    refine aw_Vi 1 [.int 1, .int x2, .int x3] [.int 1, .ref 1, .int 10000, .int 0] d_X12_payOf_301 (cV_X12_forceOf (d + 0) 0 0) kc_12 (ws_1 w25) tw_2308 rfl (rr0 (Nat.le_of_ble_eq_true rfl) (Nat.le_of_ble_eq_true rfl)) (Nat.le_of_ble_eq_true rfl) xs0 k (fun r36 h34 kk => ?_)
    obtain ⟨w35, k⟩ := kk
    refine aw_Vi 1 [.int 1, .int r36] [.int 10000, .int 0] d_X12_payOf_304 (cV_X12_tell (d + 4) 0 0) kc_12 (ws_1 w35) tw_2424 rfl (rr0 (Nat.le_of_ble_eq_true rfl) (Nat.le_of_ble_eq_true rfl)) (Nat.le_of_ble_eq_true rfl) xs0 k (fun r39 h37 kk => ?_)
    obtain ⟨w38, k⟩ := kk
    refine aw_mmin d_X12_payOf_307 tw_2552 (show 1 ≤ (d + 7) by omega) (Nat.le_trans (Nat.le_of_ble_eq_true rfl) (show 100 ≤ 100 * (d + 7) by omega)) ⟨Nat.le_refl _, Nat.le_refl _⟩ ?_
    refine aw_mmax d_X12_payOf_310 tw_2470 (show 1 ≤ (d + 7) by omega) (Nat.le_trans (Nat.le_of_ble_eq_true rfl) (show 100 ≤ 100 * (d + 7) by omega)) ⟨Nat.le_refl _, Nat.le_refl _⟩ ?_
    exact aw_iret rfl d_X12_payOf_313 ⟨Nat.le_refl _, Nat.le_refl _⟩ ⟨_, rfl, k⟩
  · have k := k.2 c23
    refine aw_aload_n (i := 0) rfl d_X12_payOf_137 0 rfl ?_
    refine aw_getr (k0 := 72) kc_12 (ws_1 w) (Nat.le_of_ble_eq_true rfl) tw_1814 d_X12_payOf_138 rfl (wr_1_72 w) ?_
    refine aw_iload d_X12_payOf_141 8 rfl ?_
    obtain ⟨b40, k⟩ := k
    refine aw_iald (ws_255 w) b40 d_X12_payOf_143 ?_
    refine aw_iload_n (i := 1) rfl d_X12_payOf_144 1 rfl ?_
    refine aw_icmp_ne (tgt := 222) d_X12_payOf_145 rfl (fun c41 => ?_) (fun c41 => ?_)
    · have k := k.1 c41
      refine aw_iinc (v := (x8 + 1)) [(0, .ref 1), (1, .int x1), (2, .int x2), (3, .int x3), (4, .int x4), (5, .int x5), (6, .int x6), (7, .int x7), (8, .int (x8 + 1))] d_X12_payOf_222 8 rfl rfl (Nat.le_of_ble_eq_true rfl) rfl rfl ?_
      refine aw_goto (tgt := 128) d_X12_payOf_225 rfl ?_
      exact k
    · have k := k.2 c41
      refine aw_aload_n (i := 0) rfl d_X12_payOf_148 0 rfl ?_
      refine aw_getr (k0 := 74) kc_12 (ws_1 w) (Nat.le_of_ble_eq_true rfl) tw_1816 d_X12_payOf_149 rfl (wr_1_74 w) ?_
      refine aw_iload d_X12_payOf_152 8 rfl ?_
      obtain ⟨b42, k⟩ := k
      refine aw_iald (ws_257 w) b42 d_X12_payOf_154 ?_
      refine aw_sipush (v := 1440) d_X12_payOf_155 is_1440 ?_
      refine aw_idiv d_X12_payOf_158 (by decide) ?_
      refine aw_iload_n (i := 2) rfl d_X12_payOf_159 2 rfl ?_
      refine aw_icmp_ne (tgt := 222) d_X12_payOf_160 rfl (fun c43 => ?_) (fun c43 => ?_)
      · have k := k.1 c43
        refine aw_iinc (v := (x8 + 1)) [(0, .ref 1), (1, .int x1), (2, .int x2), (3, .int x3), (4, .int x4), (5, .int x5), (6, .int x6), (7, .int x7), (8, .int (x8 + 1))] d_X12_payOf_222 8 rfl rfl (Nat.le_of_ble_eq_true rfl) rfl rfl ?_
        refine aw_goto (tgt := 128) d_X12_payOf_225 rfl ?_
        exact k
      · have k := k.2 c43
        refine aw_aload_n (i := 0) rfl d_X12_payOf_163 0 rfl ?_
        refine aw_getr (k0 := 75) kc_12 (ws_1 w) (Nat.le_of_ble_eq_true rfl) tw_1817 d_X12_payOf_164 rfl (wr_1_75 w) ?_
        refine aw_iload d_X12_payOf_167 8 rfl ?_
        obtain ⟨b44, k⟩ := k
        refine aw_iald (ws_258 w) b44 d_X12_payOf_169 ?_
        refine aw_iconst (v := 3) d_X12_payOf_170 ic_3 ?_
        refine aw_icmp_ne (tgt := 222) d_X12_payOf_171 rfl (fun c45 => ?_) (fun c45 => ?_)
        · have k := k.1 c45
          refine aw_iinc (v := (x8 + 1)) [(0, .ref 1), (1, .int x1), (2, .int x2), (3, .int x3), (4, .int x4), (5, .int x5), (6, .int x6), (7, .int x7), (8, .int (x8 + 1))] d_X12_payOf_222 8 rfl rfl (Nat.le_of_ble_eq_true rfl) rfl rfl ?_
          refine aw_goto (tgt := 128) d_X12_payOf_225 rfl ?_
          exact k
        · have k := k.2 c45
          refine aw_aload_n (i := 0) rfl d_X12_payOf_174 0 rfl ?_
          refine aw_iload d_X12_payOf_175 8 rfl ?_
          refine aw_iload_n (i := 3) rfl d_X12_payOf_177 3 rfl ?_
          refine aw_Vi 1 [.int x8, .int x3] [] d_X12_payOf_178 (cV_X12_lets (d + 6) 0 0) kc_12 (ws_1 w) tw_2396 rfl (rr0 (Nat.le_of_ble_eq_true rfl) (Nat.le_of_ble_eq_true rfl)) (Nat.le_of_ble_eq_true rfl) xs0 k (fun r48 h46 kk => ?_)
          obtain ⟨w47, k⟩ := kk
          refine aw_iconst (v := 3) d_X12_payOf_181 ic_3 ?_
          refine aw_icmp_ne (tgt := 189) d_X12_payOf_182 rfl (fun c49 => ?_) (fun c49 => ?_)
          · have k := k.1 c49
            refine aw_iconst (v := 0) d_X12_payOf_189 ic_0 ?_
            refine aw_istore [(0, .ref 1), (1, .int x1), (2, .int x2), (3, .int x3), (4, .int x4), (5, .int x5), (6, .int x6), (7, .int x7), (8, .int x8), (9, .int 0)] d_X12_payOf_190 (Nat.le_of_ble_eq_true rfl) rfl rfl ?_
            refine aw_iload d_X12_payOf_192 6 rfl ?_
            refine aw_iload d_X12_payOf_194 9 rfl ?_
            refine aw_if_eq (tgt := 203) d_X12_payOf_196 rfl (fun _ => ?_) (fun c => absurd c (by decide))
            refine aw_iconst (v := 0) d_X12_payOf_203 ic_0 ?_
            refine aw_iadd d_X12_payOf_204 ?_
            refine aw_istore [(0, .ref 1), (1, .int x1), (2, .int x2), (3, .int x3), (4, .int x4), (5, .int x5), (6, .int (x6 + 0)), (7, .int x7), (8, .int x8), (9, .int 0)] d_X12_payOf_205 (Nat.le_of_ble_eq_true rfl) rfl rfl ?_
            refine aw_iload d_X12_payOf_207 7 rfl ?_
            refine aw_iload d_X12_payOf_209 9 rfl ?_
            refine aw_if_eq (tgt := 218) d_X12_payOf_211 rfl (fun _ => ?_) (fun c => absurd c (by decide))
            refine aw_iconst (v := 1) d_X12_payOf_218 ic_1 ?_
            refine aw_iadd d_X12_payOf_219 ?_
            refine aw_istore [(0, .ref 1), (1, .int x1), (2, .int x2), (3, .int x3), (4, .int x4), (5, .int x5), (6, .int (x6 + 0)), (7, .int (x7 + 1)), (8, .int x8), (9, .int 0)] d_X12_payOf_220 (Nat.le_of_ble_eq_true rfl) rfl rfl ?_
            refine aw_iinc (v := (x8 + 1)) [(0, .ref 1), (1, .int x1), (2, .int x2), (3, .int x3), (4, .int x4), (5, .int x5), (6, .int (x6 + 0)), (7, .int (x7 + 1)), (8, .int (x8 + 1)), (9, .int 0)] d_X12_payOf_222 8 rfl rfl (Nat.le_of_ble_eq_true rfl) rfl rfl ?_
            refine aw_goto (tgt := 128) d_X12_payOf_225 rfl ?_
            exact aw_lvp [0, 1, 2, 3, 4, 5, 6, 7, 8] [(0, .ref 1), (1, .int x1), (2, .int x2), (3, .int x3), (4, .int x4), (5, .int x5), (6, .int (x6 + 0)), (7, .int (x7 + 1)), (8, .int (x8 + 1))] rfl k
          · have k := k.2 c49
            refine aw_iconst (v := 1) d_X12_payOf_185 ic_1 ?_
            refine aw_goto (tgt := 190) d_X12_payOf_186 rfl ?_
            refine aw_istore [(0, .ref 1), (1, .int x1), (2, .int x2), (3, .int x3), (4, .int x4), (5, .int x5), (6, .int x6), (7, .int x7), (8, .int x8), (9, .int 1)] d_X12_payOf_190 (Nat.le_of_ble_eq_true rfl) rfl rfl ?_
            refine aw_iload d_X12_payOf_192 6 rfl ?_
            refine aw_iload d_X12_payOf_194 9 rfl ?_
            refine aw_if_eq (tgt := 203) d_X12_payOf_196 rfl (fun c => absurd c (by decide)) (fun _ => ?_)
            refine aw_iconst (v := 1) d_X12_payOf_199 ic_1 ?_
            refine aw_goto (tgt := 204) d_X12_payOf_200 rfl ?_
            refine aw_iadd d_X12_payOf_204 ?_
            refine aw_istore [(0, .ref 1), (1, .int x1), (2, .int x2), (3, .int x3), (4, .int x4), (5, .int x5), (6, .int (x6 + 1)), (7, .int x7), (8, .int x8), (9, .int 1)] d_X12_payOf_205 (Nat.le_of_ble_eq_true rfl) rfl rfl ?_
            refine aw_iload d_X12_payOf_207 7 rfl ?_
            refine aw_iload d_X12_payOf_209 9 rfl ?_
            refine aw_if_eq (tgt := 218) d_X12_payOf_211 rfl (fun c => absurd c (by decide)) (fun _ => ?_)
            refine aw_iconst (v := 0) d_X12_payOf_214 ic_0 ?_
            refine aw_goto (tgt := 219) d_X12_payOf_215 rfl ?_
            refine aw_iadd d_X12_payOf_219 ?_
            refine aw_istore [(0, .ref 1), (1, .int x1), (2, .int x2), (3, .int x3), (4, .int x4), (5, .int x5), (6, .int (x6 + 1)), (7, .int (x7 + 0)), (8, .int x8), (9, .int 1)] d_X12_payOf_220 (Nat.le_of_ble_eq_true rfl) rfl rfl ?_
            refine aw_iinc (v := (x8 + 1)) [(0, .ref 1), (1, .int x1), (2, .int x2), (3, .int x3), (4, .int x4), (5, .int x5), (6, .int (x6 + 1)), (7, .int (x7 + 0)), (8, .int (x8 + 1)), (9, .int 1)] d_X12_payOf_222 8 rfl rfl (Nat.le_of_ble_eq_true rfl) rfl rfl ?_
            refine aw_goto (tgt := 128) d_X12_payOf_225 rfl ?_
            exact aw_lvp [0, 1, 2, 3, 4, 5, 6, 7, 8] [(0, .ref 1), (1, .int x1), (2, .int x2), (3, .int x3), (4, .int x4), (5, .int x5), (6, .int (x6 + 1)), (7, .int (x7 + 0)), (8, .int (x8 + 1))] rfl k
theorem t_X12_book (d : Nat) (h : Hp_)  (K : Int32 → Hp_ → Prop) (k : AW (m_X12_book (d + 8) 0 0) 0 0 4 [(0, .ref 1), (1, .int 0), (2, .int 0)] [] h (kI K)) : Ci (m_X12_book (d + 8) 0 0) [.ref 1] h K := by
  refine Ct.of (fun _ _ _ => trivial) rfl (Nat.le_of_ble_eq_true rfl) ?_
  show AW (m_X12_book (d + 8) 0 0) 0 0 0 [(0, .ref 1)] [] h (kI K)
  refine aw_iconst (v := 0) d_X12_book_0 ic_0 ?_
  refine aw_istore_n (i := 1) rfl [(0, .ref 1), (1, .int 0)] d_X12_book_1 (Nat.le_of_ble_eq_true rfl) rfl rfl ?_
  refine aw_iconst (v := 0) d_X12_book_2 ic_0 ?_
  refine aw_istore_n (i := 2) rfl [(0, .ref 1), (1, .int 0), (2, .int 0)] d_X12_book_3 (Nat.le_of_ble_eq_true rfl) rfl rfl ?_
  exact k
theorem t_X12_book_4 (d : Nat) (h : Hp_) (w : Wf h) (x1 : Int32) (x2 : Int32) (K : Int32 → Hp_ → Prop) (k : (((h_i h 1 0) / 1440) ≤ x2 → (((h_i h 1 127) + x1) ≤ 600 → AW (m_X12_book (d + 8) 0 0) 0 0 86 [(0, .ref 1), (1, .int x1), (2, .int 0)] [] h (kI K)) ∧ (¬ ((h_i h 1 127) + x1) ≤ 600 → K (-1) h)) ∧ (¬ ((h_i h 1 0) / 1440) ≤ x2 → AW (m_X12_book (d + 8) 0 0) 0 0 18 [(0, .ref 1), (1, .int x1), (2, .int x2), (3, .int 0)] [] h (kI K))) : AW (m_X12_book (d + 8) 0 0) 0 0 4 [(0, .ref 1), (1, .int x1), (2, .int x2)] [] h (kI K) := by
  refine aw_iload_n (i := 2) rfl d_X12_book_4 2 rfl ?_
  refine aw_aload_n (i := 0) rfl d_X12_book_5 0 rfl ?_
  refine aw_geti (k0 := 0) kc_12 (ws_1 w) (Nat.le_of_ble_eq_true rfl) tw_1742 d_X12_book_6 rfl ?_
  refine aw_sipush (v := 1440) d_X12_book_9 is_1440 ?_
  refine aw_idiv d_X12_book_12 (by decide) ?_
  refine aw_icmp_ge (tgt := 70) d_X12_book_13 rfl (fun c1 => ?_) (fun c1 => ?_)
  · have k := k.1 c1
    refine aw_aload_n (i := 0) rfl d_X12_book_70 0 rfl ?_
    refine aw_geti (k0 := 127) kc_12 (ws_1 w) (Nat.le_of_ble_eq_true rfl) tw_1869 d_X12_book_71 rfl ?_
    refine aw_iload_n (i := 1) rfl d_X12_book_74 1 rfl ?_
    refine aw_iadd d_X12_book_75 ?_
    refine aw_sipush (v := 600) d_X12_book_76 is_600 ?_
    refine aw_icmp_le (tgt := 84) d_X12_book_79 rfl (fun c2 => ?_) (fun c2 => ?_)
    · have k := k.1 c2
      refine aw_iconst (v := 0) d_X12_book_84 ic_0 ?_
      refine aw_istore_n (i := 2) rfl [(0, .ref 1), (1, .int x1), (2, .int 0)] d_X12_book_85 (Nat.le_of_ble_eq_true rfl) rfl rfl ?_
      exact k
    · have k := k.2 c2
      refine aw_iconst (v := (-1)) d_X12_book_82 ic_m1 ?_
      exact aw_iret rfl d_X12_book_83 ⟨Nat.le_refl _, Nat.le_refl _⟩ ⟨_, rfl, k⟩
  · have k := k.2 c1
    refine aw_iconst (v := 0) d_X12_book_16 ic_0 ?_
    refine aw_istore_n (i := 3) rfl [(0, .ref 1), (1, .int x1), (2, .int x2), (3, .int 0)] d_X12_book_17 (Nat.le_of_ble_eq_true rfl) rfl rfl ?_
    exact k
theorem t_X12_book_86 (d : Nat) (h : Hp_) (w : Wf h) (x1 : Int32) (x2 : Int32) (K : Int32 → Hp_ → Prop) (k : (((h_i h 1 0) / 1440) ≤ x2 → K x1 h) ∧ (¬ ((h_i h 1 0) / 1440) ≤ x2 → AW (m_X12_book (d + 8) 0 0) 0 0 100 [(0, .ref 1), (1, .int x1), (2, .int x2), (3, .int 0)] [] h (kI K))) : AW (m_X12_book (d + 8) 0 0) 0 0 86 [(0, .ref 1), (1, .int x1), (2, .int x2)] [] h (kI K) := by
  refine aw_iload_n (i := 2) rfl d_X12_book_86 2 rfl ?_
  refine aw_aload_n (i := 0) rfl d_X12_book_87 0 rfl ?_
  refine aw_geti (k0 := 0) kc_12 (ws_1 w) (Nat.le_of_ble_eq_true rfl) tw_1742 d_X12_book_88 rfl ?_
  refine aw_sipush (v := 1440) d_X12_book_91 is_1440 ?_
  refine aw_idiv d_X12_book_94 (by decide) ?_
  refine aw_icmp_ge (tgt := 227) d_X12_book_95 rfl (fun c3 => ?_) (fun c3 => ?_)
  · have k := k.1 c3
    refine aw_iload_n (i := 1) rfl d_X12_book_227 1 rfl ?_
    exact aw_iret rfl d_X12_book_228 ⟨Nat.le_refl _, Nat.le_refl _⟩ ⟨_, rfl, k⟩
  · have k := k.2 c3
    refine aw_iconst (v := 0) d_X12_book_98 ic_0 ?_
    refine aw_istore_n (i := 3) rfl [(0, .ref 1), (1, .int x1), (2, .int x2), (3, .int 0)] d_X12_book_99 (Nat.le_of_ble_eq_true rfl) rfl rfl ?_
    exact k
theorem t_X12_book_18 (d : Nat) (h : Hp_) (w : Wf h) (x1 : Int32) (x2 : Int32) (x3 : Int32) (K : Int32 → Hp_ → Prop) (k : ((h_i h 1 7) ≤ x3 → AW (m_X12_book (d + 8) 0 0) 0 0 4 [(0, .ref 1), (1, .int x1), (2, .int (x2 + 1))] [] h (kI K)) ∧ (¬ (h_i h 1 7) ≤ x3 → Ci (m_X12_payOf (d + 7) 0 0) [.ref 1, .int x3, .int x2, .int (h_i h 1 0)] h (fun r7 h5 => Wf h5 ∧ (vp_in ((31 * x3) + x2) 372 ∧ ((r7 = (h_i h5 293 (((31 * x3) + x2) : Int32).toNatClampNeg) → AW (m_X12_book (d + 8) 0 0) 0 0 18 [(0, .ref 1), (1, .int (x1 + 0)), (2, .int x2), (3, .int (x3 + 1))] [] h5 (kI K)) ∧ (¬ r7 = (h_i h5 293 (((31 * x3) + x2) : Int32).toNatClampNeg) → AW (m_X12_book (d + 8) 0 0) 0 0 18 [(0, .ref 1), (1, .int (x1 + 1)), (2, .int x2), (3, .int (x3 + 1))] [] h5 (kI K))))))) : AW (m_X12_book (d + 8) 0 0) 0 0 18 [(0, .ref 1), (1, .int x1), (2, .int x2), (3, .int x3)] [] h (kI K) := by
  refine aw_iload_n (i := 3) rfl d_X12_book_18 3 rfl ?_
  refine aw_aload_n (i := 0) rfl d_X12_book_19 0 rfl ?_
  refine aw_geti (k0 := 7) kc_12 (ws_1 w) (Nat.le_of_ble_eq_true rfl) tw_1749 d_X12_book_20 rfl ?_
  refine aw_icmp_ge (tgt := 64) d_X12_book_23 rfl (fun c4 => ?_) (fun c4 => ?_)
  · have k := k.1 c4
    refine aw_iinc (v := (x2 + 1)) [(0, .ref 1), (1, .int x1), (2, .int (x2 + 1)), (3, .int x3)] d_X12_book_64 2 rfl rfl (Nat.le_of_ble_eq_true rfl) rfl rfl ?_
    refine aw_goto (tgt := 4) d_X12_book_67 rfl ?_
    exact aw_lvp [0, 1, 2] [(0, .ref 1), (1, .int x1), (2, .int (x2 + 1))] rfl k
  · have k := k.2 c4
    refine aw_iload_n (i := 1) rfl d_X12_book_26 1 rfl ?_
    refine aw_aload_n (i := 0) rfl d_X12_book_27 0 rfl ?_
    refine aw_iload_n (i := 3) rfl d_X12_book_28 3 rfl ?_
    refine aw_iload_n (i := 2) rfl d_X12_book_29 2 rfl ?_
    refine aw_aload_n (i := 0) rfl d_X12_book_30 0 rfl ?_
    refine aw_geti (k0 := 0) kc_12 (ws_1 w) (Nat.le_of_ble_eq_true rfl) tw_1742 d_X12_book_31 rfl ?_
    refine aw_Vi 1 [.int x3, .int x2, .int (h_i h 1 0)] [.int x1] d_X12_book_34 (cV_X12_payOf (d + 7) 0 0) kc_12 (ws_1 w) tw_2664 rfl (rr0 (Nat.le_of_ble_eq_true rfl) (Nat.le_of_ble_eq_true rfl)) (Nat.le_of_ble_eq_true rfl) xs0 k (fun r7 h5 kk => ?_)
    obtain ⟨w6, k⟩ := kk
    refine aw_aload_n (i := 0) rfl d_X12_book_37 0 rfl ?_
    refine aw_getr (k0 := 122) kc_12 (ws_1 w6) (Nat.le_of_ble_eq_true rfl) tw_1864 d_X12_book_38 rfl (wr_1_122 w6) ?_
    refine aw_bipush (v := 31) d_X12_book_41 ib_31 ?_
    refine aw_iload_n (i := 3) rfl d_X12_book_43 3 rfl ?_
    refine aw_imul d_X12_book_44 ?_
    refine aw_iload_n (i := 2) rfl d_X12_book_45 2 rfl ?_
    refine aw_iadd d_X12_book_46 ?_
    obtain ⟨b8, k⟩ := k
    refine aw_iald (ws_293 w6) b8 d_X12_book_47 ?_
    refine aw_icmp_eq (tgt := 55) d_X12_book_48 rfl (fun c9 => ?_) (fun c9 => ?_)
    · have k := k.1 c9
      refine aw_iconst (v := 0) d_X12_book_55 ic_0 ?_
      refine aw_iadd d_X12_book_56 ?_
      refine aw_istore_n (i := 1) rfl [(0, .ref 1), (1, .int (x1 + 0)), (2, .int x2), (3, .int x3)] d_X12_book_57 (Nat.le_of_ble_eq_true rfl) rfl rfl ?_
      refine aw_iinc (v := (x3 + 1)) [(0, .ref 1), (1, .int (x1 + 0)), (2, .int x2), (3, .int (x3 + 1))] d_X12_book_58 3 rfl rfl (Nat.le_of_ble_eq_true rfl) rfl rfl ?_
      refine aw_goto (tgt := 18) d_X12_book_61 rfl ?_
      exact k
    · have k := k.2 c9
      refine aw_iconst (v := 1) d_X12_book_51 ic_1 ?_
      refine aw_goto (tgt := 56) d_X12_book_52 rfl ?_
      refine aw_iadd d_X12_book_56 ?_
      refine aw_istore_n (i := 1) rfl [(0, .ref 1), (1, .int (x1 + 1)), (2, .int x2), (3, .int x3)] d_X12_book_57 (Nat.le_of_ble_eq_true rfl) rfl rfl ?_
      refine aw_iinc (v := (x3 + 1)) [(0, .ref 1), (1, .int (x1 + 1)), (2, .int x2), (3, .int (x3 + 1))] d_X12_book_58 3 rfl rfl (Nat.le_of_ble_eq_true rfl) rfl rfl ?_
      refine aw_goto (tgt := 18) d_X12_book_61 rfl ?_
      exact k
theorem t_X12_book_100 (d : Nat) (h : Hp_) (w : Wf h) (x1 : Int32) (x2 : Int32) (x3 : Int32) (K : Int32 → Hp_ → Prop) (k : ((h_i h 1 7) ≤ x3 → AW (m_X12_book (d + 8) 0 0) 0 0 86 [(0, .ref 1), (1, .int x1), (2, .int (x2 + 1))] [] h (kI K)) ∧ (¬ (h_i h 1 7) ≤ x3 → Ci (m_X12_payOf (d + 7) 0 0) [.ref 1, .int x3, .int x2, .int (h_i h 1 0)] h (fun r13 h11 => Wf h11 ∧ (vp_in ((31 * x3) + x2) 372 ∧ ((r13 = (h_i h11 293 (((31 * x3) + x2) : Int32).toNatClampNeg) → AW (m_X12_book (d + 8) 0 0) 0 0 100 [(0, .ref 1), (1, .int x1), (2, .int x2), (3, .int (x3 + 1))] [] h11 (kI K)) ∧ (¬ r13 = (h_i h11 293 (((31 * x3) + x2) : Int32).toNatClampNeg) → vp_in (h_i h11 1 127) 600 ∧ (vp_in (h_i h11 1 127) 600 ∧ (vp_in ((31 * x3) + x2) 372 ∧ (vp_in (h_i h11 1 127) 600 ∧ (vp_in (h_i h11 1 127) 600 ∧ (vp_in ((31 * x3) + x2) 372 ∧ (AW (m_X12_book (d + 8) 0 0) 0 0 100 [(0, .ref 1), (1, .int x1), (2, .int x2), (3, .int (x3 + 1))] [] (h_im (h_im (h_im (h_im (h_im (h_im h11 294 ((h_i h11 1 127) : Int32).toNatClampNeg x3) 295 ((h_i h11 1 127) : Int32).toNatClampNeg x2) 296 ((h_i h11 1 127) : Int32).toNatClampNeg (r13 - (h_i h11 293 (((31 * x3) + x2) : Int32).toNatClampNeg))) 297 ((h_i h11 1 127) : Int32).toNatClampNeg (h_i h11 1 0)) 1 127 ((h_i h11 1 127) + 1)) 293 (((31 * x3) + x2) : Int32).toNatClampNeg r13) (kI K))))))))))))) : AW (m_X12_book (d + 8) 0 0) 0 0 100 [(0, .ref 1), (1, .int x1), (2, .int x2), (3, .int x3)] [] h (kI K) := by
  refine aw_iload_n (i := 3) rfl d_X12_book_100 3 rfl ?_
  refine aw_aload_n (i := 0) rfl d_X12_book_101 0 rfl ?_
  refine aw_geti (k0 := 7) kc_12 (ws_1 w) (Nat.le_of_ble_eq_true rfl) tw_1749 d_X12_book_102 rfl ?_
  refine aw_icmp_ge (tgt := 221) d_X12_book_105 rfl (fun c10 => ?_) (fun c10 => ?_)
  · have k := k.1 c10
    refine aw_iinc (v := (x2 + 1)) [(0, .ref 1), (1, .int x1), (2, .int (x2 + 1)), (3, .int x3)] d_X12_book_221 2 rfl rfl (Nat.le_of_ble_eq_true rfl) rfl rfl ?_
    refine aw_goto (tgt := 86) d_X12_book_224 rfl ?_
    exact aw_lvp [0, 1, 2] [(0, .ref 1), (1, .int x1), (2, .int (x2 + 1))] rfl k
  · have k := k.2 c10
    refine aw_aload_n (i := 0) rfl d_X12_book_108 0 rfl ?_
    refine aw_iload_n (i := 3) rfl d_X12_book_109 3 rfl ?_
    refine aw_iload_n (i := 2) rfl d_X12_book_110 2 rfl ?_
    refine aw_aload_n (i := 0) rfl d_X12_book_111 0 rfl ?_
    refine aw_geti (k0 := 0) kc_12 (ws_1 w) (Nat.le_of_ble_eq_true rfl) tw_1742 d_X12_book_112 rfl ?_
    refine aw_Vi 1 [.int x3, .int x2, .int (h_i h 1 0)] [] d_X12_book_115 (cV_X12_payOf (d + 7) 0 0) kc_12 (ws_1 w) tw_2664 rfl (rr0 (Nat.le_of_ble_eq_true rfl) (Nat.le_of_ble_eq_true rfl)) (Nat.le_of_ble_eq_true rfl) xs0 k (fun r13 h11 kk => ?_)
    obtain ⟨w12, k⟩ := kk
    refine aw_istore [(0, .ref 1), (1, .int x1), (2, .int x2), (3, .int x3), (4, .int r13)] d_X12_book_118 (Nat.le_of_ble_eq_true rfl) rfl rfl ?_
    refine aw_iload d_X12_book_120 4 rfl ?_
    refine aw_aload_n (i := 0) rfl d_X12_book_122 0 rfl ?_
    refine aw_getr (k0 := 122) kc_12 (ws_1 w12) (Nat.le_of_ble_eq_true rfl) tw_1864 d_X12_book_123 rfl (wr_1_122 w12) ?_
    refine aw_bipush (v := 31) d_X12_book_126 ib_31 ?_
    refine aw_iload_n (i := 3) rfl d_X12_book_128 3 rfl ?_
    refine aw_imul d_X12_book_129 ?_
    refine aw_iload_n (i := 2) rfl d_X12_book_130 2 rfl ?_
    refine aw_iadd d_X12_book_131 ?_
    obtain ⟨b14, k⟩ := k
    refine aw_iald (ws_293 w12) b14 d_X12_book_132 ?_
    refine aw_icmp_eq (tgt := 215) d_X12_book_133 rfl (fun c15 => ?_) (fun c15 => ?_)
    · have k := k.1 c15
      refine aw_iinc (v := (x3 + 1)) [(0, .ref 1), (1, .int x1), (2, .int x2), (3, .int (x3 + 1)), (4, .int r13)] d_X12_book_215 3 rfl rfl (Nat.le_of_ble_eq_true rfl) rfl rfl ?_
      refine aw_goto (tgt := 100) d_X12_book_218 rfl ?_
      exact aw_lvp [0, 1, 2, 3] [(0, .ref 1), (1, .int x1), (2, .int x2), (3, .int (x3 + 1))] rfl k
    · have k := k.2 c15
      refine aw_aload_n (i := 0) rfl d_X12_book_136 0 rfl ?_
      refine aw_getr (k0 := 123) kc_12 (ws_1 w12) (Nat.le_of_ble_eq_true rfl) tw_1865 d_X12_book_137 rfl (wr_1_123 w12) ?_
      refine aw_aload_n (i := 0) rfl d_X12_book_140 0 rfl ?_
      refine aw_geti (k0 := 127) kc_12 (ws_1 w12) (Nat.le_of_ble_eq_true rfl) tw_1869 d_X12_book_141 rfl ?_
      refine aw_iload_n (i := 3) rfl d_X12_book_144 3 rfl ?_
      obtain ⟨b16, k⟩ := k
      refine aw_iast (ws_294 w12) b16 d_X12_book_145 ?_
      refine aw_aload_n (i := 0) rfl d_X12_book_146 0 rfl ?_
      refine aw_getr (k0 := 124) kc_12 (ws_1 w12) (Nat.le_of_ble_eq_true rfl) tw_1866 d_X12_book_147 rfl (wr_1_124 w12) ?_
      refine aw_aload_n (i := 0) rfl d_X12_book_150 0 rfl ?_
      refine aw_geti (k0 := 127) kc_12 (ws_1 w12) (Nat.le_of_ble_eq_true rfl) tw_1869 d_X12_book_151 rfl ?_
      refine aw_vi (v2 := (h_i h11 1 127)) (rfl) ?_
      refine aw_iload_n (i := 2) rfl d_X12_book_154 2 rfl ?_
      obtain ⟨b17, k⟩ := k
      refine aw_iast (ws_295 w12) b17 d_X12_book_155 ?_
      refine aw_aload_n (i := 0) rfl d_X12_book_156 0 rfl ?_
      refine aw_getr (k0 := 125) kc_12 (ws_1 w12) (Nat.le_of_ble_eq_true rfl) tw_1867 d_X12_book_157 rfl (wr_1_125 w12) ?_
      refine aw_aload_n (i := 0) rfl d_X12_book_160 0 rfl ?_
      refine aw_geti (k0 := 127) kc_12 (ws_1 w12) (Nat.le_of_ble_eq_true rfl) tw_1869 d_X12_book_161 rfl ?_
      refine aw_vi (v2 := (h_i h11 1 127)) (rfl) ?_
      refine aw_iload d_X12_book_164 4 rfl ?_
      refine aw_aload_n (i := 0) rfl d_X12_book_166 0 rfl ?_
      refine aw_getr (k0 := 122) kc_12 (ws_1 w12) (Nat.le_of_ble_eq_true rfl) tw_1864 d_X12_book_167 rfl (wr_1_122 w12) ?_
      refine aw_bipush (v := 31) d_X12_book_170 ib_31 ?_
      refine aw_iload_n (i := 3) rfl d_X12_book_172 3 rfl ?_
      refine aw_imul d_X12_book_173 ?_
      refine aw_iload_n (i := 2) rfl d_X12_book_174 2 rfl ?_
      refine aw_iadd d_X12_book_175 ?_
      obtain ⟨b18, k⟩ := k
      refine aw_iald (ws_293 w12) b18 d_X12_book_176 ?_
      refine aw_vi (v2 := (h_i h11 293 (((31 * x3) + x2) : Int32).toNatClampNeg)) (rfl) ?_
      refine aw_isub d_X12_book_177 ?_
      obtain ⟨b19, k⟩ := k
      refine aw_iast (ws_296 w12) b19 d_X12_book_178 ?_
      refine aw_aload_n (i := 0) rfl d_X12_book_179 0 rfl ?_
      refine aw_getr (k0 := 126) kc_12 (ws_1 w12) (Nat.le_of_ble_eq_true rfl) tw_1868 d_X12_book_180 rfl (wr_1_126 w12) ?_
      refine aw_aload_n (i := 0) rfl d_X12_book_183 0 rfl ?_
      refine aw_geti (k0 := 127) kc_12 (ws_1 w12) (Nat.le_of_ble_eq_true rfl) tw_1869 d_X12_book_184 rfl ?_
      refine aw_vi (v2 := (h_i h11 1 127)) (rfl) ?_
      refine aw_aload_n (i := 0) rfl d_X12_book_187 0 rfl ?_
      refine aw_geti (k0 := 0) kc_12 (ws_1 w12) (Nat.le_of_ble_eq_true rfl) tw_1742 d_X12_book_188 rfl ?_
      refine aw_vi (v2 := (h_i h11 1 0)) (rfl) ?_
      obtain ⟨b20, k⟩ := k
      refine aw_iast (ws_297 w12) b20 d_X12_book_191 ?_
      refine aw_aload_n (i := 0) rfl d_X12_book_192 0 rfl ?_
      refine aw_dup d_X12_book_193 rfl ?_
      refine aw_geti (k0 := 127) kc_12 (ws_1 w12) (Nat.le_of_ble_eq_true rfl) tw_1869 d_X12_book_194 rfl ?_
      refine aw_vi (v2 := (h_i h11 1 127)) (rfl) ?_
      refine aw_iconst (v := 1) d_X12_book_197 ic_1 ?_
      refine aw_iadd d_X12_book_198 ?_
      refine aw_puti (k0 := 127) kc_12 (ws_1 w12) (Nat.le_of_ble_eq_true rfl) tw_1869 d_X12_book_199 rfl rfl nf_i ?_
      refine aw_aload_n (i := 0) rfl d_X12_book_202 0 rfl ?_
      refine aw_getr (k0 := 122) kc_12 (ws_1 w12) (Nat.le_of_ble_eq_true rfl) tw_1864 d_X12_book_203 rfl (wr_1_122 w12) ?_
      refine aw_bipush (v := 31) d_X12_book_206 ib_31 ?_
      refine aw_iload_n (i := 3) rfl d_X12_book_208 3 rfl ?_
      refine aw_imul d_X12_book_209 ?_
      refine aw_iload_n (i := 2) rfl d_X12_book_210 2 rfl ?_
      refine aw_iadd d_X12_book_211 ?_
      refine aw_iload d_X12_book_212 4 rfl ?_
      obtain ⟨b21, k⟩ := k
      refine aw_iast (ws_293 w12) b21 d_X12_book_214 ?_
      refine aw_iinc (v := (x3 + 1)) [(0, .ref 1), (1, .int x1), (2, .int x2), (3, .int (x3 + 1)), (4, .int r13)] d_X12_book_215 3 rfl rfl (Nat.le_of_ble_eq_true rfl) rfl rfl ?_
      refine aw_goto (tgt := 100) d_X12_book_218 rfl ?_
      exact aw_lvp [0, 1, 2, 3] [(0, .ref 1), (1, .int x1), (2, .int x2), (3, .int (x3 + 1))] rfl k
end
section
/-! the words of beats: steps, and steps within brackets -/
def stB (cd : Nat → Int32) (i i' : Nat) : Prop := (cd i = 0 ∧ rin (cd (i + 1)).toInt (0, 15) ∧ i' = i + 2) ∨ (cd i = 1 ∧ rin (cd (i + 1)).toInt (1, 240) ∧ i' = i + 2) ∨ (cd i = 2 ∧ rin (cd (i + 1)).toInt (0, 15) ∧ rin (cd (i + 2)).toInt (0, 1440) ∧ i' = i + 3) ∨ (cd i = 3 ∧ i' = i + 1)
def sqS (S : Nat → Nat → Prop) : Nat → Nat → Nat → Prop
  | 0, i, j => i = j
  | f + 1, i, j => ∃ i', S i i' ∧ sqS S f i' j
def stD (cd : Nat → Int32) : Nat → Nat → Nat → Prop
  | 0, i, i' => stB cd i i'
  | g + 1, i, i' => stB cd i i' ∨ (cd i = 4 ∧ ∃ f j, sqS (stD cd g) f (i + 1) j ∧ cd j = 5 ∧ rin (cd (j + 1)).toInt (1, 20) ∧ i' = j + 2)
theorem stB_lt {cd : Nat → Int32} {i i' : Nat} (s : stB cd i i') : i < i' ∧ i' ≤ i + 3 := by
  rcases s with ⟨_, _, e⟩ | ⟨_, _, e⟩ | ⟨_, _, _, e⟩ | ⟨_, e⟩
  · omega
  · omega
  · omega
  · omega
theorem stB_same {cd cd' : Nat → Int32} {i i' : Nat} (e : ∀ x, i ≤ x → x < i' → cd' x = cd x) (s : stB cd i i') : stB cd' i i' := by
  rcases s with ⟨a, b, c⟩ | ⟨a, b, c⟩ | ⟨a, b, b', c⟩ | ⟨a, c⟩
  · exact Or.inl ⟨by rw [e i (by omega) (by omega)]; exact a, by rw [e (i + 1) (by omega) (by omega)]; exact b, c⟩
  · exact Or.inr (Or.inl ⟨by rw [e i (by omega) (by omega)]; exact a, by rw [e (i + 1) (by omega) (by omega)]; exact b, c⟩)
  · exact Or.inr (Or.inr (Or.inl ⟨by rw [e i (by omega) (by omega)]; exact a, by rw [e (i + 1) (by omega) (by omega)]; exact b, by rw [e (i + 2) (by omega) (by omega)]; exact b', c⟩))
  · exact Or.inr (Or.inr (Or.inr ⟨by rw [e i (by omega) (by omega)]; exact a, c⟩))
theorem sqS_le {S : Nat → Nat → Prop} (hS : ∀ a b, S a b → a < b) : ∀ {f i j : Nat}, sqS S f i j → i ≤ j
  | 0, _, _, h => Nat.le_of_eq h
  | f + 1, i, j, h => by
    obtain ⟨i', a, b⟩ := h
    have l1 := hS _ _ a
    have l2 := sqS_le hS b
    omega
theorem stD_lt {cd : Nat → Int32} : ∀ {g i i' : Nat}, stD cd g i i' → i < i'
  | 0, _, _, s => (stB_lt s).1
  | g + 1, i, i', s => by
    rcases s with s | ⟨_, f, j, q, _, _, e⟩
    · exact (stB_lt s).1
    · have l := sqS_le (fun a b t => stD_lt (g := g) t) q
      omega
theorem sqS_same {cd cd' : Nat → Int32} {S S' : Nat → Nat → Prop} (hl : ∀ a b, S a b → a < b) (hS : ∀ a b, (∀ x, a ≤ x → x < b → cd' x = cd x) → S a b → S' a b) : ∀ {f i j : Nat}, (∀ x, i ≤ x → x < j → cd' x = cd x) → sqS S f i j → sqS S' f i j
  | 0, _, _, _, h => h
  | f + 1, i, j, e, h => by
    obtain ⟨i', a, b⟩ := h
    have l1 := hl _ _ a
    have l2 := sqS_le hl b
    exact ⟨i', hS _ _ (fun x u v => e x u (by omega)) a, sqS_same hl hS (fun x u v => e x (by omega) v) b⟩
theorem stD_same {cd cd' : Nat → Int32} : ∀ {g i i' : Nat}, (∀ x, i ≤ x → x < i' → cd' x = cd x) → stD cd g i i' → stD cd' g i i'
  | 0, _, _, e, s => stB_same e s
  | g + 1, i, i', e, s => by
    rcases s with s | ⟨a, f, j, q, b, c, x⟩
    · exact Or.inl (stB_same e s)
    · have l := sqS_le (fun _ _ t => stD_lt t) q
      refine Or.inr ⟨by rw [e i (by omega) (by omega)]; exact a, f, j, ?_, by rw [e j (by omega) (by omega)]; exact b, by rw [e (j + 1) (by omega) (by omega)]; exact c, x⟩
      exact sqS_same (cd := cd) (cd' := cd') (fun _ _ t => stD_lt t) (fun _ _ e' s' => stD_same (g := g) e' s') (fun x u v => e x (by omega) (by omega)) q
theorem sqD_same {cd cd' : Nat → Int32} {g f i j : Nat} (e : ∀ x, i ≤ x → x < j → cd' x = cd x) (q : sqS (stD cd g) f i j) : sqS (stD cd' g) f i j :=
  sqS_same (cd := cd) (cd' := cd') (fun _ _ t => stD_lt t) (fun _ _ e' s' => stD_same e' s') e q
theorem sqS_snoc {S : Nat → Nat → Prop} : ∀ {f i j k : Nat}, sqS S f i j → S j k → sqS S (f + 1) i k
  | 0, i, j, k, h, s => by
    have h : i = j := h
    subst h
    exact ⟨k, s, rfl⟩
  | f + 1, i, j, k, h, s => by
    obtain ⟨i', a, b⟩ := h
    exact ⟨i', a, sqS_snoc b s⟩
theorem stD.b {cd : Nat → Int32} {g i i' : Nat} (s : stB cd i i') : stD cd g i i' := by
  cases g with
  | zero => exact s
  | succ g => exact Or.inl s
/-- codes said behind what stood -/
def Sy (h : Hp_) (xs : List Int32) (h2 : Hp_) : Prop := Iv h2 ∧ Fr wzp h h2 ∧ (∀ k, k < sN h → h_i h2 226 k = h_i h 226 k) ∧ ps h2 = ps h + (xs.length : Int) ∧ ∀ i x, xs[i]? = some x → h_i h2 226 (sN h + i) = x
abbrev Sa (h : Hp_) (x : Int32) (h' : Hp_) : Prop := Iv h' ∧ Fr [1036, 226999] h h' ∧ (h_i h' 1 36).toInt = (h_i h 1 36).toInt + 1 ∧ h_i h' 226 (h_i h 1 36).toNatClampNeg = x ∧ ∀ k, k ≠ (h_i h 1 36).toNatClampNeg → h_i h' 226 k = h_i h 226 k
theorem Sa.q {h : Hp_} {x : Int32} {h' : Hp_} (S : Sa h x h') : pa h' = pa h ∧ h_i h' 1 34 = h_i h 1 34 ∧ pd h' = pd h ∧ ps h' = ps h + 1 ∧ pz h' = pz h := by
  refine ⟨?_, (S.2.1.2 1 34 (by decide +kernel)).1, ?_, S.2.2.1, zf S.2.1 (by decide +kernel)⟩
  · show (h_i h' 1 33).toInt = _; rw [(S.2.1.2 1 33 (by decide +kernel)).1]
  · show (h_i h' 1 35).toInt = _; rw [(S.2.1.2 1 35 (by decide +kernel)).1]
theorem Sy.rf {h : Hp_} (I : Iv h) : Sy h [] h := ⟨I, Fr.rf _ _, fun _ _ => rfl, by simp, fun i x e => by simp at e⟩
theorem Sy.say {h h2 h3 : Hp_} {xs : List Int32} {x : Int32} (I : Iv h) (S : Sy h xs h2) (T : Sa h2 x h3) : Sy h (xs ++ [x]) h3 := by
  obtain ⟨s1, s2, s3, s4, s5⟩ := S
  obtain ⟨t1, t2, t3, t4, t5⟩ := T
  have n0 := sN_i I
  have n2 := sN_i s1
  have m2 : sN h2 = sN h + xs.length := by omega
  have e3 : ps h3 = ps h2 + 1 := t3
  refine ⟨t1, s2.tr (t2.more (by decide +kernel)), fun k hk => ?_, ?_, fun i y e => ?_⟩
  · rw [t5 k (by show k ≠ sN h2; omega)]; exact s3 k hk
  · rw [List.length_append, List.length_singleton]; omega
  · rcases Nat.lt_or_ge i xs.length with u | u
    · rw [List.getElem?_append_left u] at e
      rw [t5 _ (by show sN h + i ≠ sN h2; omega)]; exact s5 i y e
    · have iu : i = xs.length := by
        rcases Nat.lt_or_ge xs.length i with v | v
        · rw [List.getElem?_eq_none (by rw [List.length_append, List.length_singleton]; omega)] at e; cases e
        · omega
      subst iu
      rw [List.getElem?_append_right (Nat.le_refl _), Nat.sub_self] at e
      have e' : x = y := by simpa using e
      rw [← m2, ← e']; exact t4
theorem Sy.mv {h h2 h3 : Hp_} {xs : List Int32} (S : Sy h xs h2) (I3 : Iv h3) (F : Fr [1033, 1034, 1035] h2 h3) : Sy h xs h3 := by
  obtain ⟨s1, s2, s3, s4, s5⟩ := S
  have e36 : ps h3 = ps h2 := by show (h_i h3 1 36).toInt = _; rw [(F.2 1 36 (by decide +kernel)).1]
  refine ⟨I3, s2.tr (F.more (by decide +kernel)), fun k hk => ?_, by omega, fun i y e => ?_⟩
  · rw [fr_i F (a := 226) (by decide +kernel)]; exact s3 k hk
  · rw [fr_i F (a := 226) (by decide +kernel)]; exact s5 i y e
/-- one sign further behind a look -/
theorem nx1 {h h1 : Hp_} {r : Int32} (I : Iv h) (L : Lk h r h1) (l : pa h1 < pz h) : Iv (h_im h1 1 33 ((h_i h1 1 33) + 1)) ∧ Fr [1033] h (h_im h1 1 33 ((h_i h1 1 33) + 1)) ∧ pa (h_im h1 1 33 ((h_i h1 1 33) + 1)) = pa h1 + 1 := by
  have z1 : pz h ≤ 160 := (pz_in I).2
  have a0 : 0 ≤ (h_i h1 1 33).toInt := (pa_in L.1).1
  have l' : (h_i h1 1 33).toInt < pz h := l
  have o1 : (1 : Int32).toInt = 1 := rfl
  have e33 : (h_i h1 1 33 + 1).toInt = (h_i h1 1 33).toInt + 1 := by rw [tx_add (by rw [o1]; omega) (by rw [o1]; omega), o1]
  refine ⟨i33 L.1 ⟨by rw [e33]; show (0 : Int) ≤ _; omega, by rw [e33]; show _ ≤ (180 : Int); omega⟩, L.2.1.im (by decide +kernel), ?_⟩
  show (h_i (h_im h1 1 33 _) 1 33).toInt = _
  rw [im_at]; exact e33
/-- a bracket's end: one further, one less deep -/
theorem cl1 {h : Hp_} (I : Iv h) (a : pa h ≤ 179) (e : 1 ≤ pd h) : Iv (h_im (h_im h 1 33 ((h_i h 1 33) + 1)) 1 35 ((h_i h 1 35) - 1)) ∧ Fr [1033, 1034, 1035] h (h_im (h_im h 1 33 ((h_i h 1 33) + 1)) 1 35 ((h_i h 1 35) - 1)) ∧ pa (h_im (h_im h 1 33 ((h_i h 1 33) + 1)) 1 35 ((h_i h 1 35) - 1)) = pa h + 1 ∧ pd (h_im (h_im h 1 33 ((h_i h 1 33) + 1)) 1 35 ((h_i h 1 35) - 1)) = pd h - 1 ∧ h_i (h_im (h_im h 1 33 ((h_i h 1 33) + 1)) 1 35 ((h_i h 1 35) - 1)) 1 34 = h_i h 1 34 := by
  have a0 : 0 ≤ (h_i h 1 33).toInt := (pa_in I).1
  have a1 : (h_i h 1 33).toInt ≤ 179 := a
  have d7 : (h_i h 1 35).toInt ≤ 7 := (dp_in7 I).2
  have d1 : 1 ≤ (h_i h 1 35).toInt := e
  have o1 : (1 : Int32).toInt = 1 := rfl
  have e33 : (h_i h 1 33 + 1).toInt = (h_i h 1 33).toInt + 1 := by rw [tx_add (by rw [o1]; omega) (by rw [o1]; omega), o1]
  have e35 : (h_i h 1 35 - 1).toInt = (h_i h 1 35).toInt - 1 := by rw [tx_sub (by rw [o1]; omega) (by rw [o1]; omega), o1]
  refine ⟨i35 (i33 I ⟨by rw [e33]; show (0 : Int) ≤ _; omega, by rw [e33]; show _ ≤ (180 : Int); omega⟩) ⟨by rw [e35]; show (0 : Int) ≤ _; omega, by rw [e35]; show _ ≤ (7 : Int); omega⟩, ((Fr.rf _ _).im (by decide +kernel)).im (by decide +kernel), ?_, ?_, by rw [f_ne (by decide), f_ne (by decide)]⟩
  · show (h_i (h_im (h_im h 1 33 _) 1 35 _) 1 33).toInt = _
    rw [f_ne (by decide), im_at]; exact e33
  · show (h_i (h_im (h_im h 1 33 _) 1 35 _) 1 35).toInt = _
    rw [im_at]; exact e35
def Pr (h : Hp_) : Prop := h_i h 1 34 = -1 ∧ pa h ≤ pz h ∧ pd h ≤ 4 ∧ ps h ≤ pa h
/-- what a step or steps read leave -/
def Ptt (Q : (Nat → Int32) → Nat → Nat → Prop) (h h' : Hp_) : Prop := Iv h' ∧ Fr wzp h h' ∧ pd h' = pd h ∧ pa h ≤ pa h' ∧ (∀ k, k < sN h → h_i h' 226 k = h_i h 226 k) ∧ ps h ≤ ps h' ∧
  (h_i h' 1 34 = -1 → pa h' ≤ pz h ∧ pa h < pa h' ∧ ps h' ≤ ps h + (pa h' - pa h) ∧ Q (h_i h' 226) (sN h) (sN h')) ∧
  (¬ h_i h' 1 34 = -1 → pa h' + pd h ≤ pz h + 5 ∧ ps h' ≤ ps h + (pa h' - pa h) + 1)
theorem Ptt.of {Q : (Nat → Int32) → Nat → Nat → Prop} {h h5 : Hp_} {xs : List Int32} (I : Iv h) (S : Sy h xs h5) (ed : pd h5 = pd h) (a : pa h ≤ pa h5) (ok : h_i h5 1 34 = -1 → pa h5 ≤ pz h ∧ pa h + (xs.length : Int) ≤ pa h5 ∧ 0 < xs.length ∧ Q (h_i h5 226) (sN h) (sN h + xs.length)) (no : ¬ h_i h5 1 34 = -1 → pa h5 + pd h ≤ pz h + 5 ∧ (xs.length : Int) ≤ pa h5 - pa h + 1) : Ptt Q h h5 := by
  obtain ⟨s1, s2, s3, s4, s5⟩ := S
  have n0 := sN_i I
  have n5 := sN_i s1
  have m5 : sN h5 = sN h + xs.length := by omega
  refine ⟨s1, s2, ed, a, s3, by omega, fun w => ?_, fun w => ?_⟩
  · obtain ⟨o1, o2, o3, o4⟩ := ok w
    refine ⟨o1, by omega, by omega, ?_⟩
    rw [m5]; exact o4
  · obtain ⟨o1, o2⟩ := no w
    exact ⟨o1, by omega⟩
theorem Ptt.lk {Q : (Nat → Int32) → Nat → Nat → Prop} {h h2 h5 : Hp_} {r : Int32} (I : Iv h) (q : Pr h) (P : Ptt Q h h2) (L : Lk h2 r h5) : Ptt Q h h5 := by
  obtain ⟨p1, p2, p3, p4, p5, p6, p7, p8⟩ := P
  obtain ⟨l1, l2, l3, l4, l5⟩ := L
  obtain ⟨q1, q2, q3, q4⟩ := q
  have z2 := zf p2 (by decide +kernel)
  have e34 : h_i h5 1 34 = h_i h2 1 34 := (l2.2 1 34 (by decide +kernel)).1
  have e35 : pd h5 = pd h2 := by show (h_i h5 1 35).toInt = _; rw [(l2.2 1 35 (by decide +kernel)).1]
  have e36 : h_i h5 1 36 = h_i h2 1 36 := (l2.2 1 36 (by decide +kernel)).1
  have p36 : ps h5 = ps h2 := by show (h_i h5 1 36).toInt = _; rw [e36]
  have n36 : sN h5 = sN h2 := by show (h_i h5 1 36).toNatClampNeg = _; rw [e36]
  have f226 : h_i h5 226 = h_i h2 226 := funext (fun k => fr_i l2 (by decide +kernel) k)
  refine ⟨l1, p2.tr (l2.more (by decide +kernel)), by omega, by omega, fun k hk => by rw [f226]; exact p5 k hk, by omega, fun w => ?_, fun w => ?_⟩
  · rw [e34] at w
    obtain ⟨t1, t2, t3, t4⟩ := p7 w
    refine ⟨by omega, by omega, by omega, ?_⟩
    rw [n36, f226]; exact t4
  · rw [e34] at w
    obtain ⟨t1, t2⟩ := p8 w
    exact ⟨by omega, by omega⟩
def RdS (D : Int) (Q : (Nat → Int32) → Nat → Nat → Prop) (C : Nat → Hp_ → (Hp_ → Prop) → Prop) : Prop := ∀ (d : Nat) (h : Hp_), Iv h → Pr h → pd h = D → C d h (fun h' => Ptt Q h h')
end
section
/-! steps read -/
theorem f36 {ws : List Nat} {h h' : Hp_} (F : Fr ws h h') (o : inw ws 1 36 = false) : ps h' = ps h := by show (h_i h' 1 36).toInt = _; rw [(F.2 1 36 o).1]
theorem f35 {ws : List Nat} {h h' : Hp_} (F : Fr ws h h') (o : inw ws 1 35 = false) : pd h' = pd h := by show (h_i h' 1 35).toInt = _; rw [(F.2 1 35 o).1]
theorem f34 {ws : List Nat} {h h' : Hp_} (F : Fr ws h h') (o : inw ws 1 34 = false) : h_i h' 1 34 = h_i h 1 34 := (F.2 1 34 o).1
theorem f33 {ws : List Nat} {h h' : Hp_} (F : Fr ws h h') (o : inw ws 1 33 = false) : pa h' = pa h := by show (h_i h' 1 33).toInt = _; rw [(F.2 1 33 o).1]
theorem st_bad {Q : (Nat → Int32) → Nat → Nat → Prop} (d : Nat) {h h1 : Hp_} {r : Int32} (I : Iv h) (q : Pr h) (L : Lk h r h1) : Cv (m_X12_bad (d + 0) 0 0) [.ref 1] h1 (fun h9 => Wf h9 ∧ Ptt Q h h9) := by
  obtain ⟨q1, q2, q3, q4⟩ := q
  refine Cv.mono (c_bad d L.1) (fun h9 k => ⟨k.1.1, ?_⟩)
  obtain ⟨k1, k2, k3⟩ := k
  have e33 := f33 k2 (by decide +kernel)
  have e35 := f35 k2 (by decide +kernel)
  have e35' := f35 L.2.1 (by decide +kernel)
  have l3 := L.2.2.1
  have l4 := L.2.2.2.1
  refine Ptt.of I (((Sy.rf I).mv L.1 (L.2.1.more (by decide +kernel))).mv k1 (k2.more (by decide +kernel))) (by omega) (by omega) (fun w => absurd w k3) (fun _ => ⟨by omega, ?_⟩)
  show (0 : Int) ≤ _
  omega
theorem st_gw {Q : (Nat → Int32) → Nat → Nat → Prop} (d : Nat) {h h1 : Hp_} {r : Int32} (I : Iv h) (q : Pr h) (L : Lk h r h1) (l : pa h1 < pz h) (c x1 x2 : Int32) (hq : ∀ (cd : Nat → Int32) (i : Nat), cd i = c → x1 ≤ cd (i + 1) → cd (i + 1) ≤ x2 → Q cd i (i + 2)) : Cv (m_X12_say (d + 0) 0 0) [.ref 1, .int c] (h_im h1 1 33 ((h_i h1 1 33) + 1)) (fun h3 => Wf h3 ∧ Ci (m_X12_within (d + 2) 0 0) [.ref 1, .int x1, .int x2] h3 (fun r4 h4 => Wf h4 ∧ Cv (m_X12_say (d + 0) 0 0) [.ref 1, .int r4] h4 (fun h5 => Wf h5 ∧ Ptt Q h h5))) := by
  obtain ⟨q1, q2, q3, q4⟩ := q
  obtain ⟨I2, F2, a2⟩ := nx1 I L l
  have z1 : pz h ≤ 160 := (pz_in I).2
  have l3 := L.2.2.1
  generalize h_im h1 1 33 ((h_i h1 1 33) + 1) = h2 at I2 F2 a2 ⊢
  have p2 := f36 F2 (by decide +kernel)
  have w2 := f34 F2 (by decide +kernel)
  have d2 := f35 F2 (by decide +kernel)
  have z2 := zf F2 (by decide +kernel)
  refine Cv.mono (c_say d I2 c (by show ps h2 ≤ 558; omega)) (fun h3 S => ⟨S.1.1, ?_⟩)
  obtain ⟨s1, s2, s3, s4, s5⟩ := Sa.q (h := h2) (x := c) (h' := h3) S
  refine Ci.mono (c_within d S.1 (by rw [s2, w2]; exact q1) (by omega) x1 x2) (fun r4 h4 W => ⟨W.1.1.1, ?_⟩)
  obtain ⟨N, wr⟩ := W
  obtain ⟨n1, n2, n3, n4, n5⟩ := N
  have p4 := f36 n2 (by decide +kernel)
  have d4 := f35 n2 (by decide +kernel)
  refine Cv.mono (c_say d n1 r4 (by show ps h4 ≤ 558; omega)) (fun h5 T => ⟨T.1.1, ?_⟩)
  obtain ⟨t1, t2, t3, t4, t5⟩ := Sa.q (h := h4) (x := r4) (h' := h5) T
  have Y : Sy h [c, r4] h5 := ((((Sy.rf I).mv I2 (F2.more (by decide +kernel))).say I S).mv n1 (n2.more (by decide +kernel))).say I T
  refine Ptt.of I Y (by omega) (by omega) (fun w => ?_) (fun w => ?_)
  · rw [t2] at w
    have g := n5 w
    obtain ⟨b1, b2⟩ := wr w
    have e0 := Y.2.2.2.2 0 c rfl
    have e1 := Y.2.2.2.2 1 r4 rfl
    refine ⟨by omega, ?_, Nat.zero_lt_succ _, hq _ _ e0 (by rw [e1]; exact b1) (by rw [e1]; exact b2)⟩
    show pa h + (2 : Int) ≤ _
    omega
  · refine ⟨by omega, ?_⟩
    show (2 : Int) ≤ _
    omega
theorem st_p {g : Nat} (d : Nat) {h h1 : Hp_} {r : Int32} (I : Iv h) (q : Pr h) (L : Lk h r h1) (l : pa h1 < pz h) : Cv (m_X12_say (d + 0) 0 0) [.ref 1, .int 2] (h_im h1 1 33 ((h_i h1 1 33) + 1)) (fun h3 => Wf h3 ∧ Ci (m_X12_within (d + 2) 0 0) [.ref 1, .int 0, .int 15] h3 (fun r4 h4 => Wf h4 ∧ Cv (m_X12_say (d + 0) 0 0) [.ref 1, .int r4] h4 (fun h5 => Wf h5 ∧ ((¬ (h_i h5 1 34) = (-1) → Ptt (fun cd => stD cd g) h h5) ∧ ((h_i h5 1 34) = (-1) → Ci (m_X12_within (d + 2) 0 0) [.ref 1, .int 0, .int 1440] h5 (fun r6 h6 => Wf h6 ∧ Cv (m_X12_say (d + 0) 0 0) [.ref 1, .int r6] h6 (fun h7 => Wf h7 ∧ Ptt (fun cd => stD cd g) h h7))))))) := by
  obtain ⟨q1, q2, q3, q4⟩ := q
  obtain ⟨I2, F2, a2⟩ := nx1 I L l
  have z1 : pz h ≤ 160 := (pz_in I).2
  have l3 := L.2.2.1
  generalize h_im h1 1 33 ((h_i h1 1 33) + 1) = h2 at I2 F2 a2 ⊢
  have p2 := f36 F2 (by decide +kernel)
  have w2 := f34 F2 (by decide +kernel)
  have d2 := f35 F2 (by decide +kernel)
  have z2 := zf F2 (by decide +kernel)
  refine Cv.mono (c_say d I2 2 (by show ps h2 ≤ 558; omega)) (fun h3 S => ⟨S.1.1, ?_⟩)
  obtain ⟨s1, s2, s3, s4, s5⟩ := Sa.q (h := h2) (x := 2) (h' := h3) S
  refine Ci.mono (c_within d S.1 (by rw [s2, w2]; exact q1) (by omega) 0 15) (fun r4 h4 W => ⟨W.1.1.1, ?_⟩)
  obtain ⟨N, wr⟩ := W
  obtain ⟨n1, n2, n3, n4, n5⟩ := N
  have p4 := f36 n2 (by decide +kernel)
  have d4 := f35 n2 (by decide +kernel)
  have z4 := zf n2 (by decide +kernel)
  refine Cv.mono (c_say d n1 r4 (by show ps h4 ≤ 558; omega)) (fun h5 T => ⟨T.1.1, fun w => ?_, fun w => ?_⟩)
  · obtain ⟨t1, t2, t3, t4, t5⟩ := Sa.q (h := h4) (x := r4) (h' := h5) T
    have Y : Sy h [2, r4] h5 := ((((Sy.rf I).mv I2 (F2.more (by decide +kernel))).say I S).mv n1 (n2.more (by decide +kernel))).say I T
    refine Ptt.of I Y (by omega) (by omega) (fun y => absurd y w) (fun _ => ⟨by omega, ?_⟩)
    show (2 : Int) ≤ _
    omega
  · obtain ⟨t1, t2, t3, t4, t5⟩ := Sa.q (h := h4) (x := r4) (h' := h5) T
    have Y : Sy h [2, r4] h5 := ((((Sy.rf I).mv I2 (F2.more (by decide +kernel))).say I S).mv n1 (n2.more (by decide +kernel))).say I T
    have w4 : h_i h4 1 34 = -1 := by rw [← t2]; exact w
    have g4 := n5 w4
    obtain ⟨b1, b2⟩ := wr w4
    refine Ci.mono (c_within d T.1 w (by omega) 0 1440) (fun r6 h6 W => ⟨W.1.1.1, ?_⟩)
    obtain ⟨N', wr'⟩ := W
    obtain ⟨m1, m2, m3, m4, m5⟩ := N'
    have p6 := f36 m2 (by decide +kernel)
    have d6 := f35 m2 (by decide +kernel)
    refine Cv.mono (c_say d m1 r6 (by show ps h6 ≤ 558; omega)) (fun h7 U => ⟨U.1.1, ?_⟩)
    obtain ⟨u1, u2, u3, u4, u5⟩ := Sa.q (h := h6) (x := r6) (h' := h7) U
    have X : Sy h [2, r4, r6] h7 := (Y.mv m1 (m2.more (by decide +kernel))).say I U
    refine Ptt.of I X (by omega) (by omega) (fun v => ?_) (fun v => ?_)
    · rw [u2] at v
      have g6 := m5 v
      obtain ⟨b3, b4⟩ := wr' v
      have e0 := X.2.2.2.2 0 2 rfl
      have e1 := X.2.2.2.2 1 r4 rfl
      have e2 := X.2.2.2.2 2 r6 rfl
      refine ⟨by omega, ?_, Nat.zero_lt_succ _, stD.b (Or.inr (Or.inr (Or.inl ⟨e0, ?_, ?_, rfl⟩)))⟩
      · show pa h + (3 : Int) ≤ _
        omega
      · show rin (h_i h7 226 (sN h + 1)).toInt (0, 15)
        rw [e1]; exact ⟨q_le.mp b1, q_le.mp b2⟩
      · show rin (h_i h7 226 (sN h + 2)).toInt (0, 1440)
        rw [e2]; exact ⟨q_le.mp b3, q_le.mp b4⟩
    · refine ⟨by omega, ?_⟩
      show (3 : Int) ≤ _
      omega
theorem st_l {g : Nat} (d : Nat) {h h1 : Hp_} {r : Int32} (I : Iv h) (q : Pr h) (L : Lk h r h1) (l : pa h1 < pz h) : Cv (m_X12_say (d + 0) 0 0) [.ref 1, .int 3] (h_im h1 1 33 ((h_i h1 1 33) + 1)) (fun h3 => Wf h3 ∧ Ptt (fun cd => stD cd g) h h3) := by
  obtain ⟨q1, q2, q3, q4⟩ := q
  obtain ⟨I2, F2, a2⟩ := nx1 I L l
  have z1 : pz h ≤ 160 := (pz_in I).2
  have l3 := L.2.2.1
  generalize h_im h1 1 33 ((h_i h1 1 33) + 1) = h2 at I2 F2 a2 ⊢
  have p2 := f36 F2 (by decide +kernel)
  have w2 := f34 F2 (by decide +kernel)
  have d2 := f35 F2 (by decide +kernel)
  refine Cv.mono (c_say d I2 3 (by show ps h2 ≤ 558; omega)) (fun h3 S => ⟨S.1.1, ?_⟩)
  obtain ⟨s1, s2, s3, s4, s5⟩ := Sa.q (h := h2) (x := 3) (h' := h3) S
  have Y : Sy h [3] h3 := ((Sy.rf I).mv I2 (F2.more (by decide +kernel))).say I S
  refine Ptt.of I Y (by omega) (by omega) (fun w => ?_) (fun w => absurd (by rw [s2, w2]; exact q1) w)
  refine ⟨by omega, ?_, Nat.zero_lt_succ _, stD.b (Or.inr (Or.inr (Or.inr ⟨Y.2.2.2.2 0 3 rfl, rfl⟩)))⟩
  show pa h + (1 : Int) ≤ _
  omega
end
section
/-! steps within brackets; steps one behind the other; all depths -/
def Qs (g : Nat) (cd : Nat → Int32) (i j : Nat) : Prop := ∃ f, sqS (stD cd g) f i j
theorem st_n {g : Nat} (d e : Nat) (B : RdS (4 - (g : Int)) (Qs g) (fun d h K => Cv (m_X12_stepsRead (d + e + 52) 0 0) [.ref 1] h K)) {h h1 : Hp_} {r : Int32} (I : Iv h) (q : Pr h) (eD : pd h = 4 - ((g + 1 : Nat) : Int)) (L : Lk h r h1) (l : pa h1 < pz h) :
    Cv (m_X12_say (d + e + 0) 0 0) [.ref 1, .int 4] (h_im (h_im h1 1 35 ((h_i h1 1 35) + 1)) 1 33 ((h_i h1 1 33) + 1)) (fun h16 => Wf h16 ∧ (Cv (m_X12_stepsRead (d + e + 52) 0 0) [.ref 1] h16 (fun h19 => Wf h19 ∧ ((¬ (h_i h19 1 34) = (-1) → (¬ (h_i h19 1 34) = (-1) → Ptt (fun cd => stD cd (g + 1)) h (h_im (h_im h19 1 33 ((h_i h19 1 33) + 1)) 1 35 ((h_i h19 1 35) - 1))) ∧ ((h_i h19 1 34) = (-1) → Cv (m_X12_say (d + e + 0) 0 0) [.ref 1, .int 5] (h_im (h_im h19 1 33 ((h_i h19 1 33) + 1)) 1 35 ((h_i h19 1 35) - 1)) (fun h24 => Wf h24 ∧ (Ci (m_X12_within (d + e + 2) 0 0) [.ref 1, .int 1, .int 20] h24 (fun r29 h27 => Wf h27 ∧ (Cv (m_X12_say (d + e + 0) 0 0) [.ref 1, .int r29] h27 (fun h30 => Wf h30 ∧ (Ptt (fun cd => stD cd (g + 1)) h h30)))))))) ∧ ((h_i h19 1 34) = (-1) → Ci (m_X12_look (d + e + 0) 0 0) [.ref 1] h19 (fun r35 h33 => Wf h33 ∧ ((r35 = 41 → (¬ (h_i h33 1 34) = (-1) → Ptt (fun cd => stD cd (g + 1)) h (h_im (h_im h33 1 33 ((h_i h33 1 33) + 1)) 1 35 ((h_i h33 1 35) - 1))) ∧ ((h_i h33 1 34) = (-1) → Cv (m_X12_say (d + e + 0) 0 0) [.ref 1, .int 5] (h_im (h_im h33 1 33 ((h_i h33 1 33) + 1)) 1 35 ((h_i h33 1 35) - 1)) (fun h38 => Wf h38 ∧ (Ci (m_X12_within (d + e + 2) 0 0) [.ref 1, .int 1, .int 20] h38 (fun r43 h41 => Wf h41 ∧ (Cv (m_X12_say (d + e + 0) 0 0) [.ref 1, .int r43] h41 (fun h44 => Wf h44 ∧ (Ptt (fun cd => stD cd (g + 1)) h h44)))))))) ∧ (¬ r35 = 41 → Cv (m_X12_bad (d + e + 0) 0 0) [.ref 1] h33 (fun h47 => Wf h47 ∧ ((¬ (h_i h47 1 34) = (-1) → Ptt (fun cd => stD cd (g + 1)) h (h_im (h_im h47 1 33 ((h_i h47 1 33) + 1)) 1 35 ((h_i h47 1 35) - 1))) ∧ ((h_i h47 1 34) = (-1) → Cv (m_X12_say (d + e + 0) 0 0) [.ref 1, .int 5] (h_im (h_im h47 1 33 ((h_i h47 1 33) + 1)) 1 35 ((h_i h47 1 35) - 1)) (fun h51 => Wf h51 ∧ (Ci (m_X12_within (d + e + 2) 0 0) [.ref 1, .int 1, .int 20] h51 (fun r56 h54 => Wf h54 ∧ (Cv (m_X12_say (d + e + 0) 0 0) [.ref 1, .int r56] h54 (fun h57 => Wf h57 ∧ (Ptt (fun cd => stD cd (g + 1)) h h57))))))))))))))))) := by
  obtain ⟨q1, q2, q3, q4⟩ := q
  have z1 : pz h ≤ 160 := (pz_in I).2
  have l3 := L.2.2.1
  have d0 : 0 ≤ pd h := (dp_in7 I).1
  have o1 : (1 : Int32).toInt = 1 := rfl
  have ed1 := f35 L.2.1 (by decide +kernel)
  have a0' : 0 ≤ (h_i h1 1 33).toInt := (pa_in L.1).1
  have l' : (h_i h1 1 33).toInt < pz h := l
  have d1' : (h_i h1 1 35).toInt = pd h := ed1
  have e33 : (h_i h1 1 33 + 1).toInt = (h_i h1 1 33).toInt + 1 := by rw [tx_add (by rw [o1]; omega) (by rw [o1]; omega), o1]
  have e35 : (h_i h1 1 35 + 1).toInt = (h_i h1 1 35).toInt + 1 := by rw [tx_add (by rw [o1]; omega) (by rw [o1]; omega), o1]
  have I2 : Iv (h_im (h_im h1 1 35 ((h_i h1 1 35) + 1)) 1 33 ((h_i h1 1 33) + 1)) := i33 (i35 L.1 ⟨by rw [e35]; show (0 : Int) ≤ _; omega, by rw [e35]; show _ ≤ (7 : Int); omega⟩) ⟨by rw [e33]; show (0 : Int) ≤ _; omega, by rw [e33]; show _ ≤ (180 : Int); omega⟩
  have F2 : Fr [1033, 1034, 1035] h (h_im (h_im h1 1 35 ((h_i h1 1 35) + 1)) 1 33 ((h_i h1 1 33) + 1)) := ((L.2.1.more (by decide +kernel)).im (by decide +kernel)).im (by decide +kernel)
  have a2 : pa (h_im (h_im h1 1 35 ((h_i h1 1 35) + 1)) 1 33 ((h_i h1 1 33) + 1)) = pa h1 + 1 := by
    show (h_i (h_im _ 1 33 _) 1 33).toInt = _
    rw [im_at]; exact e33
  have d2 : pd (h_im (h_im h1 1 35 ((h_i h1 1 35) + 1)) 1 33 ((h_i h1 1 33) + 1)) = pd h + 1 := by
    show (h_i (h_im _ 1 33 _) 1 35).toInt = _
    rw [f_ne (by decide), im_at, e35, d1']
  have w2 : h_i (h_im (h_im h1 1 35 ((h_i h1 1 35) + 1)) 1 33 ((h_i h1 1 33) + 1)) 1 34 = -1 := by rw [f_ne (by decide), f_ne (by decide), f34 L.2.1 (by decide +kernel)]; exact q1
  generalize h_im (h_im h1 1 35 ((h_i h1 1 35) + 1)) 1 33 ((h_i h1 1 33) + 1) = h2 at I2 F2 a2 d2 w2 ⊢
  have p2 := f36 F2 (by decide +kernel)
  have z2 := zf F2 (by decide +kernel)
  refine Cv.mono (c_say (d + e) I2 4 (by show ps h2 ≤ 558; omega)) (fun h3 S => ⟨S.1.1, ?_⟩)
  obtain ⟨s1, s2, s3, s4, s5⟩ := Sa.q (h := h2) (x := 4) (h' := h3) S
  have Y : Sy h [4] h3 := ((Sy.rf I).mv I2 F2).say I S
  have n0 := sN_i I
  have n3 := sN_i Y.1
  have m3 : sN h3 = sN h + 1 := by omega
  refine Cv.mono (B d h3 Y.1 ⟨by rw [s2]; exact w2, by omega, by omega, by omega⟩ (by omega)) (fun h4 P => ⟨P.1.1, ?_⟩)
  obtain ⟨p1, p2', p3, p4, p5, p6, p7, p8⟩ := P
  have z4 := zf p2' (by decide +kernel)
  have n4 := sN_i p1
  have c4 : ∀ k, k < sN h → h_i h4 226 k = h_i h 226 k := fun k hk => by rw [p5 k (by omega)]; exact Y.2.2.1 k hk
  -- wrong behind the closing of the bracket
  have no : ∀ h5 : Hp_, Iv h5 → Fr [1033, 1034, 1035] h4 h5 → pd h5 = pd h4 → ¬ h_i h5 1 34 = -1 → pa h4 ≤ pa h5 → pa h5 + pd h + 1 ≤ pz h + 5 → ps h4 ≤ ps h + (pa h5 - pa h) + 2 → Ptt (fun cd => stD cd (g + 1)) h (h_im (h_im h5 1 33 ((h_i h5 1 33) + 1)) 1 35 ((h_i h5 1 35) - 1)) := by
    intro h5 i5 f5 e5 w5 a5 b5 c5
    obtain ⟨k1, k2, k3, k4, k5⟩ := cl1 i5 (by omega) (by omega)
    generalize h_im (h_im h5 1 33 ((h_i h5 1 33) + 1)) 1 35 ((h_i h5 1 35) - 1) = h6 at k1 k2 k3 k4 k5 ⊢
    have g5 := f36 f5 (by decide +kernel)
    have g6 := f36 k2 (by decide +kernel)
    refine ⟨k1, (Y.2.1.tr p2').tr ((f5.tr k2).more (by decide +kernel)), by omega, by omega, fun k hk => ?_, by omega, fun w => absurd (k5 ▸ w) w5, fun _ => ⟨by omega, by omega⟩⟩
    rw [fr_i k2 (a := 226) (by decide +kernel), fr_i f5 (a := 226) (by decide +kernel)]
    exact c4 k hk
  refine ⟨fun w => ⟨fun _ => ?_, fun y => absurd y w⟩, fun w => ?_⟩
  · obtain ⟨t1, t2⟩ := p8 w
    exact no h4 p1 (Fr.rf _ _) rfl w (Int.le_refl _) (by omega) (by omega)
  · obtain ⟨t1, t2, t3, t4⟩ := p7 w
    refine Ci.mono (c_look (d + e) p1) (fun r5 h5 L5 => ⟨L5.1.1, fun er => ⟨fun y => ?_, fun w5 => ?_⟩, fun nr => ?_⟩)
    · exact absurd (by rw [f34 L5.2.1 (by decide +kernel)]; exact w) y
    · have l5 : pa h5 < pz h := by
        rcases L5.fwd (z := pz h) (by omega) with u | u
        · rw [er] at u; exact absurd u (by decide)
        · exact u
      have l53 := L5.2.2.1
      have e5 := f35 L5.2.1 (by decide +kernel)
      obtain ⟨k1, k2, k3, k4, k5⟩ := cl1 L5.1 (by omega) (by omega)
      generalize h_im (h_im h5 1 33 ((h_i h5 1 33) + 1)) 1 35 ((h_i h5 1 35) - 1) = h6 at k1 k2 k3 k4 k5 ⊢
      have g5 := f36 L5.2.1 (by decide +kernel)
      have g6 := f36 k2 (by decide +kernel)
      have z5 := zf L5.2.1 (by decide +kernel)
      have z6 := zf k2 (by decide +kernel)
      refine Cv.mono (c_say (d + e) k1 5 (by show ps h6 ≤ 558; omega)) (fun h7 T => ⟨T.1.1, ?_⟩)
      obtain ⟨u1, u2, u3, u4, u5⟩ := Sa.q (h := h6) (x := 5) (h' := h7) T
      refine Ci.mono (c_within (d + e) T.1 (by rw [u2, k5]; exact w5) (by omega) 1 20) (fun r8 h8 W => ⟨W.1.1.1, ?_⟩)
      obtain ⟨N, wr⟩ := W
      obtain ⟨o1, o2, o3, o4, o5⟩ := N
      have g8 := f36 o2 (by decide +kernel)
      have e8 := f35 o2 (by decide +kernel)
      refine Cv.mono (c_say (d + e) o1 r8 (by show ps h8 ≤ 558; omega)) (fun h9 U => ⟨U.1.1, ?_⟩)
      obtain ⟨v1, v2, v3, v4, v5⟩ := Sa.q (h := h8) (x := r8) (h' := h9) U
      have X : Sy h4 [5, r8] h9 := (((((Sy.rf p1).mv L5.1 (L5.2.1.more (by decide +kernel))).mv k1 k2).say p1 T).mv o1 (o2.more (by decide +kernel))).say p1 U
      obtain ⟨x1, x2, x3, x4, x5⟩ := X
      have x4' : ps h9 = ps h4 + 2 := x4
      have n9 := sN_i x1
      have m9 : sN h9 = sN h4 + 2 := by omega
      refine ⟨x1, (Y.2.1.tr p2').tr x2, by omega, by omega, fun k hk => ?_, by omega, fun w9 => ?_, fun w9 => ⟨by omega, by omega⟩⟩
      · rw [x3 k (by omega)]; exact c4 k hk
      · rw [v2] at w9
        have g9 := o5 w9
        obtain ⟨b1, b2⟩ := wr w9
        have y5 := x5 0 5 rfl
        have y6 := x5 1 r8 rfl
        obtain ⟨f, t4⟩ := t4
        refine ⟨by omega, by omega, by omega, Or.inr ⟨?_, f, sN h4, ?_, y5, ?_, m9⟩⟩
        · rw [x3 _ (by omega), p5 _ (by omega)]
          exact Y.2.2.2.2 0 4 rfl
        · rw [← m3]
          exact sqD_same (fun k _ b => x3 k b) t4
        · rw [show h_i h9 226 (sN h4 + 1) = r8 from y6]
          exact ⟨q_le.mp b1, q_le.mp b2⟩
    · have l53 := L5.2.2.1
      have l54 := L5.2.2.2.1
      refine Cv.mono (c_bad (d + e) L5.1) (fun h6 k => ⟨k.1.1, fun w6 => ?_, fun w6 => absurd w6 k.2.2⟩)
      obtain ⟨k1, k2, k3⟩ := k
      have e6 := f33 k2 (by decide +kernel)
      have d6 := f35 k2 (by decide +kernel)
      have d5 := f35 L5.2.1 (by decide +kernel)
      exact no h6 k1 ((L5.2.1.more (by decide +kernel)).tr (k2.more (by decide +kernel))) (by omega) w6 (by omega) (by omega) (by omega)
theorem c_stepRead (e g : Nat) (hg : g ≤ 4) (B : ∀ g', g = g' + 1 → RdS (4 - (g' : Int)) (Qs g') (fun d h K => Cv (m_X12_stepsRead (d + e + 52) 0 0) [.ref 1] h K)) : RdS (4 - (g : Int)) (fun cd => stD cd g) (fun d h K => Cv (m_X12_stepRead (d + e + 61) 0 0) [.ref 1] h K) := by
  intro d h I q eD
  refine t_X12_stepRead (d + e) h I.1 _ (Ci.mono (c_look (d + e) I) (fun r h1 L => ?_))
  have fwd : ∀ c : Int32, r = c → ¬ c = -1 → pa h1 < pz h := fun c ec nc => by
    rcases L.fwd rfl with u | u
    · exact absurd (ec.symm.trans u) nc
    · exact u
  refine ⟨L.1.1, fun _ => ⟨fun _ => ⟨fun _ => ⟨fun _ => ⟨fun _ => st_bad (d + e) I q L, fun e40 => ⟨fun _ => st_bad (d + e) I q L, fun d4 => ?_⟩⟩, fun e108 => st_l (d + e) I q L (fwd _ e108 (by decide))⟩, fun e112 => st_p (d + e) I q L (fwd _ e112 (by decide))⟩, fun e119 => ?_⟩, fun e103 => ?_⟩
  · have d4 := q_nle d4
    have ed := f35 L.2.1 (by decide +kernel)
    have d4' : pd h1 < 4 := d4
    cases g with
    | zero => exact absurd eD (by omega)
    | succ g => exact st_n d e (B g rfl) I q eD L (fwd _ e40 (by decide))
  · exact st_gw (d + e) I q L (fwd _ e119 (by decide)) 1 1 240 (fun cd i a b c => stD.b (Or.inr (Or.inl ⟨a, ⟨q_le.mp b, q_le.mp c⟩, rfl⟩)))
  · exact st_gw (d + e) I q L (fwd _ e103 (by decide)) 0 0 15 (fun cd i a b c => stD.b (Or.inl ⟨a, ⟨q_le.mp b, q_le.mp c⟩, rfl⟩))
/-- one step more behind a sign -/
theorem Ptt.more {g : Nat} {h h5 h6 h9 : Hp_} (I : Iv h) (q : Pr h) (P : Ptt (Qs g) h h5) (w : h_i h5 1 34 = -1) (I6 : Iv h6) (F6 : Fr [1033] h5 h6) (a6 : pa h6 = pa h5 + 1) (Q : Ptt (fun cd => stD cd g) h6 h9) : Ptt (Qs g) h h9 := by
  obtain ⟨p1, p2, p3, p4, p5, p6, p7, p8⟩ := P
  obtain ⟨q1, q2, q3, q4, q5, q6, q7, q8⟩ := Q
  obtain ⟨t1, t2, t3, f, t4⟩ := p7 w
  have z5 := zf p2 (by decide +kernel)
  have z6 := zf F6 (by decide +kernel)
  have g6 := f36 F6 (by decide +kernel)
  have d6 := f35 F6 (by decide +kernel)
  have n5 := sN_i p1
  have n6 := sN_i I6
  have m6 : sN h6 = sN h5 := by omega
  have n0 := sN_i I
  have c6 : ∀ k, k < sN h5 → h_i h9 226 k = h_i h5 226 k := fun k hk => by rw [q5 k (by omega), fr_i F6 (a := 226) (by decide +kernel)]
  refine ⟨q1, (p2.tr (F6.more (by decide +kernel))).tr q2, by omega, by omega, fun k hk => ?_, by omega, fun w9 => ?_, fun w9 => ?_⟩
  · rw [c6 k (by omega)]; exact p5 k hk
  · obtain ⟨u1, u2, u3, u4⟩ := q7 w9
    refine ⟨by omega, by omega, by omega, f + 1, sqS_snoc (j := sN h5) (sqD_same (fun k _ b => c6 k b) t4) ?_⟩
    rw [← m6]; exact u4
  · obtain ⟨u1, u2⟩ := q8 w9
    exact ⟨by omega, by omega⟩
theorem c_stepsRead (e g : Nat) (A : RdS (4 - (g : Int)) (fun cd => stD cd g) (fun d h K => Cv (m_X12_stepRead (d + e + 51) 0 0) [.ref 1] h K)) : RdS (4 - (g : Int)) (Qs g) (fun d h K => Cv (m_X12_stepsRead (d + e + 52) 0 0) [.ref 1] h K) := by
  intro d h I q eD
  have z1 : pz h ≤ 160 := (pz_in I).2
  have qq := q
  obtain ⟨q1, q2, q3, q4⟩ := qq
  have lp : ∀ (n : Nat) (h2 : Hp_), Ptt (Qs g) h h2 → pz h - pa h2 ≤ n → AW (m_X12_stepsRead (d + e + 52) 0 0) 0 0 4 [(0, .ref 1)] [] h2 (kV (fun h' => Ptt (Qs g) h h')) := by
    intro n
    induction n with
    | zero =>
      intro h2 P m
      refine t_X12_stepsRead_4 (d + e) h2 P.1.1 _ ⟨fun _ => P, fun w => Ci.mono (c_look (d + e) P.1) (fun r h5 L => ⟨L.1.1, fun _ => P.lk I q L, fun er => ?_⟩)⟩
      have l3 := L.2.2.1
      rcases L.fwd (zf P.2.1 (by decide +kernel)) with u | u
      · rw [er] at u; exact absurd u (by decide)
      · omega
    | succ n ih =>
      intro h2 P m
      refine t_X12_stepsRead_4 (d + e) h2 P.1.1 _ ⟨fun _ => P, fun w => Ci.mono (c_look (d + e) P.1) (fun r h5 L => ⟨L.1.1, fun _ => P.lk I q L, fun er => ?_⟩)⟩
      have P5 := P.lk I q L
      have w5 : h_i h5 1 34 = -1 := by rw [f34 L.2.1 (by decide +kernel)]; exact w
      have l3 := L.2.2.1
      have z2 := zf P.2.1 (by decide +kernel)
      have l5 : pa h5 < pz h := by
        rcases L.fwd z2 with u | u
        · rw [er] at u; exact absurd u (by decide)
        · exact u
      obtain ⟨t1, t2, t3, t4⟩ := P5.2.2.2.2.2.2.1 w5
      obtain ⟨I6, F6, a6⟩ := nx1 P.1 L (by omega)
      have F56 : Fr [1033] h5 (h_im h5 1 33 ((h_i h5 1 33) + 1)) := (Fr.rf _ _).im (by decide +kernel)
      generalize h_im h5 1 33 ((h_i h5 1 33) + 1) = h6 at I6 F6 a6 F56 ⊢
      have g6 := f36 F56 (by decide +kernel)
      have d6 := f35 F56 (by decide +kernel)
      have z6 := zf F6 (by decide +kernel)
      have d5 := P5.2.2.1
      refine Cv.mono (A d h6 I6 ⟨by rw [f34 F56 (by decide +kernel)]; exact w5, by omega, by omega, by omega⟩ (by omega)) (fun h9 Q => ⟨Q.1.1, ih h9 (P5.more I q w5 I6 F56 a6 Q) ?_⟩)
      have q4 := Q.2.2.2.1
      omega
  refine t_X12_stepsRead (d + e) h I.1 _ (Cv.mono (A d h I q eD) (fun h1 P => ?_))
  have P' : Ptt (Qs g) h h1 := ⟨P.1, P.2.1, P.2.2.1, P.2.2.2.1, P.2.2.2.2.1, P.2.2.2.2.2.1, fun w => ⟨(P.2.2.2.2.2.2.1 w).1, (P.2.2.2.2.2.2.1 w).2.1, (P.2.2.2.2.2.2.1 w).2.2.1, 1, _, (P.2.2.2.2.2.2.1 w).2.2.2, rfl⟩, P.2.2.2.2.2.2.2⟩
  refine ⟨P.1.1, lp 160 h1 P' ?_⟩
  have a1 : 0 ≤ pa h1 := (pa_in P.1).1
  omega
theorem c_steps : ∀ (g : Nat), g ≤ 4 → RdS (4 - (g : Int)) (Qs g) (fun d h K => Cv (m_X12_stepsRead (d + (10 * g + 10) + 52) 0 0) [.ref 1] h K) := by
  intro g
  induction g with
  | zero =>
    intro _
    exact c_stepsRead _ 0 (c_stepRead 0 0 (by decide) (fun g' h => absurd h (by omega)))
  | succ g ih =>
    intro hg
    have A := c_stepRead (10 * g + 10) (g + 1) hg (fun g' h => by
      have h : g = g' := by omega
      subst h
      exact ih (by omega))
    refine c_stepsRead _ (g + 1) (fun d h I q a => ?_)
    have t := A d h I q a
    dsimp only at t
    rw [show d + (10 * g + 10) + 61 = d + (10 * (g + 1) + 10) + 51 by omega] at t
    exact t
theorem r_steps (d : Nat) {h : Hp_} (I : Iv h) (q : Pr h) (e : pd h = 0) : Cv (m_X12_stepsRead (d + 80 + 52) 0 0) [.ref 1] h (fun h' => Ptt (Qs 4) h h') := by
  have t := c_steps 4 (by decide) (d + 30) h I q (by omega)
  dsimp only at t
  rw [show d + 30 + (10 * 4 + 10) + 52 = d + 80 + 52 by omega] at t
  exact t
end
