theorem t_X12_unfold (d : Nat) (h : Hp_) (w : Wf h) (x1 : Int32) (x2 : Int32) (K : Int32 → Hp_ → Prop) (k : AW (m_X12_unfold (d + 1) 0 0) 0 0 5 [(0, .ref 1), (2, .int x2)] [] (h_im h 1 44 x1) (kI K)) : Ci (m_X12_unfold (d + 1) 0 0) [.ref 1, .int x1, .int x2] h K := by
  refine Ct.of (fun _ _ _ => trivial) rfl (Nat.le_of_ble_eq_true rfl) ?_
  show AW (m_X12_unfold (d + 1) 0 0) 0 0 0 [(0, .ref 1), (1, .int x1), (2, .int x2)] [] h (kI K)
  refine aw_aload_n (i := 0) rfl d_X12_unfold_0 0 rfl ?_
  refine aw_iload_n (i := 1) rfl d_X12_unfold_1 1 rfl ?_
  refine aw_puti (k0 := 44) kc_12 (ws_1 w) (Nat.le_of_ble_eq_true rfl) tw_1786 d_X12_unfold_2 rfl rfl nf_i ?_
  exact aw_lvp [0, 2] [(0, .ref 1), (2, .int x2)] rfl k
theorem t_X12_unfold_5 (d : Nat) (h : Hp_) (w : Wf h) (x2 : Int32) (K : Int32 → Hp_ → Prop) (k : ((h_i h 1 36) ≤ (h_i h 1 44) → K 1 h) ∧ (¬ (h_i h 1 36) ≤ (h_i h 1 44) → vp_in (h_i h 1 44) 560 ∧ (((h_i h 226 ((h_i h 1 44) : Int32).toNatClampNeg) = 5 → K 1 h) ∧ (¬ (h_i h 226 ((h_i h 1 44) : Int32).toNatClampNeg) = 5 → vp_in (h_i h 1 44) 560 ∧ ((¬ (h_i h 226 ((h_i h 1 44) : Int32).toNatClampNeg) = 4 → (¬ (h_i h 1 43) = 150 → (¬ 12 = (h_i h 1 42) → AW (m_X12_unfold (d + 1) 0 0) 0 0 158 [(0, .ref 1), (2, .int x2), (3, .int (h_i h 226 ((h_i h 1 44) : Int32).toNatClampNeg))] [.int ((150 * (h_i h 1 42)) + (h_i h 1 43))] h (kI K)) ∧ (12 = (h_i h 1 42) → AW (m_X12_unfold (d + 1) 0 0) 0 0 158 [(0, .ref 1), (2, .int x2), (3, .int (h_i h 226 ((h_i h 1 44) : Int32).toNatClampNeg))] [.int 0] h (kI K))) ∧ ((h_i h 1 43) = 150 → K 0 h)) ∧ ((h_i h 226 ((h_i h 1 44) : Int32).toNatClampNeg) = 4 → Ci (m_X12_unfold (d + 0) 0 0) [.ref 1, .int ((h_i h 1 44) + 1), .int x2] h (fun r10 h8 => Wf h8 ∧ ((¬ r10 = 0 → vp_in ((h_i h8 1 44) + 1) 560 ∧ (AW (m_X12_unfold (d + 1) 0 0) 0 0 84 [(0, .ref 1), (2, .int x2), (4, .int ((h_i h 1 44) + 1)), (5, .int (h_i h8 1 44)), (6, .int (h_i h8 226 (((h_i h8 1 44) + 1) : Int32).toNatClampNeg)), (7, .int 1)] [] h8 (kI K))) ∧ (r10 = 0 → K 0 h8))))))))) : AW (m_X12_unfold (d + 1) 0 0) 0 0 5 [(0, .ref 1), (2, .int x2)] [] h (kI K) := by
  refine aw_aload_n (i := 0) rfl d_X12_unfold_5 0 rfl ?_
  refine aw_geti (k0 := 44) kc_12 (ws_1 w) (Nat.le_of_ble_eq_true rfl) tw_1786 d_X12_unfold_6 rfl ?_
  refine aw_aload_n (i := 0) rfl d_X12_unfold_9 0 rfl ?_
  refine aw_geti (k0 := 36) kc_12 (ws_1 w) (Nat.le_of_ble_eq_true rfl) tw_1778 d_X12_unfold_10 rfl ?_
  refine aw_icmp_ge (tgt := 267) d_X12_unfold_13 rfl (fun c1 => ?_) (fun c1 => ?_)
  · have k := k.1 c1
    refine aw_iconst (v := 1) d_X12_unfold_267 ic_1 ?_
    exact aw_zret rfl rfl d_X12_unfold_268 ⟨Nat.le_refl _, Nat.le_refl _⟩ ⟨_, rfl, k⟩
  · have k := k.2 c1
    refine aw_aload_n (i := 0) rfl d_X12_unfold_16 0 rfl ?_
    refine aw_getr (k0 := 31) kc_12 (ws_1 w) (Nat.le_of_ble_eq_true rfl) tw_1773 d_X12_unfold_17 rfl (wr_1_31 w) ?_
    refine aw_aload_n (i := 0) rfl d_X12_unfold_20 0 rfl ?_
    refine aw_geti (k0 := 44) kc_12 (ws_1 w) (Nat.le_of_ble_eq_true rfl) tw_1786 d_X12_unfold_21 rfl ?_
    obtain ⟨b2, k⟩ := k
    refine aw_iald (ws_226 w) b2 d_X12_unfold_24 ?_
    refine aw_iconst (v := 5) d_X12_unfold_25 ic_5 ?_
    refine aw_icmp_eq (tgt := 267) d_X12_unfold_26 rfl (fun c3 => ?_) (fun c3 => ?_)
    · have k := k.1 c3
      refine aw_iconst (v := 1) d_X12_unfold_267 ic_1 ?_
      exact aw_zret rfl rfl d_X12_unfold_268 ⟨Nat.le_refl _, Nat.le_refl _⟩ ⟨_, rfl, k⟩
    · have k := k.2 c3
      refine aw_aload_n (i := 0) rfl d_X12_unfold_29 0 rfl ?_
      refine aw_getr (k0 := 31) kc_12 (ws_1 w) (Nat.le_of_ble_eq_true rfl) tw_1773 d_X12_unfold_30 rfl (wr_1_31 w) ?_
      refine aw_aload_n (i := 0) rfl d_X12_unfold_33 0 rfl ?_
      refine aw_geti (k0 := 44) kc_12 (ws_1 w) (Nat.le_of_ble_eq_true rfl) tw_1786 d_X12_unfold_34 rfl ?_
      obtain ⟨b4, k⟩ := k
      refine aw_iald (ws_226 w) b4 d_X12_unfold_37 ?_
      refine aw_istore_n (i := 3) rfl [(0, .ref 1), (2, .int x2), (3, .int (h_i h 226 ((h_i h 1 44) : Int32).toNatClampNeg))] d_X12_unfold_38 (Nat.le_of_ble_eq_true rfl) rfl rfl ?_
      refine aw_iload_n (i := 3) rfl d_X12_unfold_39 2 rfl ?_
      refine aw_iconst (v := 4) d_X12_unfold_40 ic_4 ?_
      refine aw_icmp_ne (tgt := 120) d_X12_unfold_41 rfl (fun c5 => ?_) (fun c5 => ?_)
      · have k := k.1 c5
        refine aw_aload_n (i := 0) rfl d_X12_unfold_120 0 rfl ?_
        refine aw_geti (k0 := 43) kc_12 (ws_1 w) (Nat.le_of_ble_eq_true rfl) tw_1785 d_X12_unfold_121 rfl ?_
        refine aw_sipush (v := 150) d_X12_unfold_124 is_150 ?_
        refine aw_icmp_ne (tgt := 132) d_X12_unfold_127 rfl (fun c6 => ?_) (fun c6 => ?_)
        · have k := k.1 c6
          refine aw_bipush (v := 12) d_X12_unfold_132 ib_12 ?_
          refine aw_aload_n (i := 0) rfl d_X12_unfold_134 0 rfl ?_
          refine aw_geti (k0 := 42) kc_12 (ws_1 w) (Nat.le_of_ble_eq_true rfl) tw_1784 d_X12_unfold_135 rfl ?_
          refine aw_icmp_ne (tgt := 145) d_X12_unfold_138 rfl (fun c7 => ?_) (fun c7 => ?_)
          · have k := k.1 c7
            refine aw_sipush (v := 150) d_X12_unfold_145 is_150 ?_
            refine aw_aload_n (i := 0) rfl d_X12_unfold_148 0 rfl ?_
            refine aw_geti (k0 := 42) kc_12 (ws_1 w) (Nat.le_of_ble_eq_true rfl) tw_1784 d_X12_unfold_149 rfl ?_
            refine aw_imul d_X12_unfold_152 ?_
            refine aw_aload_n (i := 0) rfl d_X12_unfold_153 0 rfl ?_
            refine aw_geti (k0 := 43) kc_12 (ws_1 w) (Nat.le_of_ble_eq_true rfl) tw_1785 d_X12_unfold_154 rfl ?_
            refine aw_iadd d_X12_unfold_157 ?_
            exact k
          · have k := k.2 c7
            refine aw_iconst (v := 0) d_X12_unfold_141 ic_0 ?_
            refine aw_goto (tgt := 158) d_X12_unfold_142 rfl ?_
            exact k
        · have k := k.2 c6
          refine aw_iconst (v := 0) d_X12_unfold_130 ic_0 ?_
          exact aw_zret rfl rfl d_X12_unfold_131 ⟨Nat.le_refl _, Nat.le_refl _⟩ ⟨_, rfl, k⟩
      · have k := k.2 c5
        refine aw_aload_n (i := 0) rfl d_X12_unfold_44 0 rfl ?_
        refine aw_geti (k0 := 44) kc_12 (ws_1 w) (Nat.le_of_ble_eq_true rfl) tw_1786 d_X12_unfold_45 rfl ?_
        refine aw_iconst (v := 1) d_X12_unfold_48 ic_1 ?_
        refine aw_iadd d_X12_unfold_49 ?_
        refine aw_istore [(0, .ref 1), (2, .int x2), (3, .int (h_i h 226 ((h_i h 1 44) : Int32).toNatClampNeg)), (4, .int ((h_i h 1 44) + 1))] d_X12_unfold_50 (Nat.le_of_ble_eq_true rfl) rfl rfl ?_
        refine aw_aload_n (i := 0) rfl d_X12_unfold_52 0 rfl ?_
        refine aw_iload d_X12_unfold_53 3 rfl ?_
        refine aw_iload_n (i := 2) rfl d_X12_unfold_55 1 rfl ?_
        refine aw_Vi 1 [.int ((h_i h 1 44) + 1), .int x2] [] d_X12_unfold_56 (cV_X12_unfold (d + 0) 0 0) kc_12 (ws_1 w) tw_2279 rfl (rr0 (Nat.le_of_ble_eq_true rfl) (Nat.le_of_ble_eq_true rfl)) (Nat.le_of_ble_eq_true rfl) xs0 k (fun r10 h8 kk => ?_)
        obtain ⟨w9, k⟩ := kk
        refine aw_if_ne (tgt := 64) d_X12_unfold_59 rfl (fun c11 => ?_) (fun c11 => ?_)
        · have k := k.1 c11
          refine aw_aload_n (i := 0) rfl d_X12_unfold_64 0 rfl ?_
          refine aw_geti (k0 := 44) kc_12 (ws_1 w9) (Nat.le_of_ble_eq_true rfl) tw_1786 d_X12_unfold_65 rfl ?_
          refine aw_istore [(0, .ref 1), (2, .int x2), (3, .int (h_i h 226 ((h_i h 1 44) : Int32).toNatClampNeg)), (4, .int ((h_i h 1 44) + 1)), (5, .int (h_i h8 1 44))] d_X12_unfold_68 (Nat.le_of_ble_eq_true rfl) rfl rfl ?_
          refine aw_aload_n (i := 0) rfl d_X12_unfold_70 0 rfl ?_
          refine aw_getr (k0 := 31) kc_12 (ws_1 w9) (Nat.le_of_ble_eq_true rfl) tw_1773 d_X12_unfold_71 rfl (wr_1_31 w9) ?_
          refine aw_iload d_X12_unfold_74 4 rfl ?_
          refine aw_iconst (v := 1) d_X12_unfold_76 ic_1 ?_
          refine aw_iadd d_X12_unfold_77 ?_
          obtain ⟨b12, k⟩ := k
          refine aw_iald (ws_226 w9) b12 d_X12_unfold_78 ?_
          refine aw_istore [(0, .ref 1), (2, .int x2), (3, .int (h_i h 226 ((h_i h 1 44) : Int32).toNatClampNeg)), (4, .int ((h_i h 1 44) + 1)), (5, .int (h_i h8 1 44)), (6, .int (h_i h8 226 (((h_i h8 1 44) + 1) : Int32).toNatClampNeg))] d_X12_unfold_79 (Nat.le_of_ble_eq_true rfl) rfl rfl ?_
          refine aw_iconst (v := 1) d_X12_unfold_81 ic_1 ?_
          refine aw_istore [(0, .ref 1), (2, .int x2), (3, .int (h_i h 226 ((h_i h 1 44) : Int32).toNatClampNeg)), (4, .int ((h_i h 1 44) + 1)), (5, .int (h_i h8 1 44)), (6, .int (h_i h8 226 (((h_i h8 1 44) + 1) : Int32).toNatClampNeg)), (7, .int 1)] d_X12_unfold_82 (Nat.le_of_ble_eq_true rfl) rfl rfl ?_
          exact aw_lvp [0, 1, 3, 4, 5, 6] [(0, .ref 1), (2, .int x2), (4, .int ((h_i h 1 44) + 1)), (5, .int (h_i h8 1 44)), (6, .int (h_i h8 226 (((h_i h8 1 44) + 1) : Int32).toNatClampNeg)), (7, .int 1)] rfl k
        · have k := k.2 c11
          refine aw_iconst (v := 0) d_X12_unfold_62 ic_0 ?_
          exact aw_zret rfl rfl d_X12_unfold_63 ⟨Nat.le_refl _, Nat.le_refl _⟩ ⟨_, rfl, k⟩
theorem t_X12_unfold_158 (d : Nat) (h : Hp_) (w : Wf h) (x2 : Int32) (x3 : Int32) (s0 : Int32) (K : Int32 → Hp_ → Prop) (k : (x2 = 0 → (¬ x3 = 3 → (¬ x3 = 2 → AW (m_X12_unfold (d + 1) 0 0) 0 0 5 [(0, .ref 1), (2, .int x2)] [] (h_im (h_im h 1 43 ((h_i h 1 43) + 1)) 1 44 ((h_i h 1 44) + 2)) (kI K)) ∧ (x3 = 2 → AW (m_X12_unfold (d + 1) 0 0) 0 0 5 [(0, .ref 1), (2, .int x2)] [] (h_im (h_im h 1 43 ((h_i h 1 43) + 1)) 1 44 ((h_i h 1 44) + 3)) (kI K))) ∧ (x3 = 3 → AW (m_X12_unfold (d + 1) 0 0) 0 0 5 [(0, .ref 1), (2, .int x2)] [] (h_im (h_im h 1 43 ((h_i h 1 43) + 1)) 1 44 ((h_i h 1 44) + 1)) (kI K))) ∧ (¬ x2 = 0 → vp_in s0 1800 ∧ ((¬ x3 = 3 → vp_in ((h_i h 1 44) + 1) 560 ∧ (vp_in s0 1800 ∧ ((¬ x3 = 2 → vp_in s0 1800 ∧ ((¬ x3 = 3 → (¬ x3 = 2 → AW (m_X12_unfold (d + 1) 0 0) 0 0 5 [(0, .ref 1), (2, .int x2)] [] (h_im (h_im (h_im (h_im (h_im h 228 s0.toNatClampNeg x3) 229 s0.toNatClampNeg (h_i h 226 (((h_i h 1 44) + 1) : Int32).toNatClampNeg)) 230 s0.toNatClampNeg 0) 1 43 ((h_i h 1 43) + 1)) 1 44 ((h_i h 1 44) + 2)) (kI K)) ∧ (x3 = 2 → AW (m_X12_unfold (d + 1) 0 0) 0 0 5 [(0, .ref 1), (2, .int x2)] [] (h_im (h_im (h_im (h_im (h_im h 228 s0.toNatClampNeg x3) 229 s0.toNatClampNeg (h_i h 226 (((h_i h 1 44) + 1) : Int32).toNatClampNeg)) 230 s0.toNatClampNeg 0) 1 43 ((h_i h 1 43) + 1)) 1 44 ((h_i h 1 44) + 3)) (kI K))) ∧ (x3 = 3 → AW (m_X12_unfold (d + 1) 0 0) 0 0 5 [(0, .ref 1), (2, .int x2)] [] (h_im (h_im (h_im (h_im (h_im h 228 s0.toNatClampNeg x3) 229 s0.toNatClampNeg (h_i h 226 (((h_i h 1 44) + 1) : Int32).toNatClampNeg)) 230 s0.toNatClampNeg 0) 1 43 ((h_i h 1 43) + 1)) 1 44 ((h_i h 1 44) + 1)) (kI K)))) ∧ (x3 = 2 → vp_in ((h_i h 1 44) + 2) 560 ∧ (vp_in s0 1800 ∧ ((¬ x3 = 3 → (¬ x3 = 2 → AW (m_X12_unfold (d + 1) 0 0) 0 0 5 [(0, .ref 1), (2, .int x2)] [] (h_im (h_im (h_im (h_im (h_im h 228 s0.toNatClampNeg x3) 229 s0.toNatClampNeg (h_i h 226 (((h_i h 1 44) + 1) : Int32).toNatClampNeg)) 230 s0.toNatClampNeg (h_i h 226 (((h_i h 1 44) + 2) : Int32).toNatClampNeg)) 1 43 ((h_i h 1 43) + 1)) 1 44 ((h_i h 1 44) + 2)) (kI K)) ∧ (x3 = 2 → AW (m_X12_unfold (d + 1) 0 0) 0 0 5 [(0, .ref 1), (2, .int x2)] [] (h_im (h_im (h_im (h_im (h_im h 228 s0.toNatClampNeg x3) 229 s0.toNatClampNeg (h_i h 226 (((h_i h 1 44) + 1) : Int32).toNatClampNeg)) 230 s0.toNatClampNeg (h_i h 226 (((h_i h 1 44) + 2) : Int32).toNatClampNeg)) 1 43 ((h_i h 1 43) + 1)) 1 44 ((h_i h 1 44) + 3)) (kI K))) ∧ (x3 = 3 → AW (m_X12_unfold (d + 1) 0 0) 0 0 5 [(0, .ref 1), (2, .int x2)] [] (h_im (h_im (h_im (h_im (h_im h 228 s0.toNatClampNeg x3) 229 s0.toNatClampNeg (h_i h 226 (((h_i h 1 44) + 1) : Int32).toNatClampNeg)) 230 s0.toNatClampNeg (h_i h 226 (((h_i h 1 44) + 2) : Int32).toNatClampNeg)) 1 43 ((h_i h 1 43) + 1)) 1 44 ((h_i h 1 44) + 1)) (kI K)))))))) ∧ (x3 = 3 → vp_in s0 1800 ∧ ((¬ x3 = 2 → vp_in s0 1800 ∧ ((¬ x3 = 3 → (¬ x3 = 2 → AW (m_X12_unfold (d + 1) 0 0) 0 0 5 [(0, .ref 1), (2, .int x2)] [] (h_im (h_im (h_im (h_im (h_im h 228 s0.toNatClampNeg x3) 229 s0.toNatClampNeg 0) 230 s0.toNatClampNeg 0) 1 43 ((h_i h 1 43) + 1)) 1 44 ((h_i h 1 44) + 2)) (kI K)) ∧ (x3 = 2 → AW (m_X12_unfold (d + 1) 0 0) 0 0 5 [(0, .ref 1), (2, .int x2)] [] (h_im (h_im (h_im (h_im (h_im h 228 s0.toNatClampNeg x3) 229 s0.toNatClampNeg 0) 230 s0.toNatClampNeg 0) 1 43 ((h_i h 1 43) + 1)) 1 44 ((h_i h 1 44) + 3)) (kI K))) ∧ (x3 = 3 → AW (m_X12_unfold (d + 1) 0 0) 0 0 5 [(0, .ref 1), (2, .int x2)] [] (h_im (h_im (h_im (h_im (h_im h 228 s0.toNatClampNeg x3) 229 s0.toNatClampNeg 0) 230 s0.toNatClampNeg 0) 1 43 ((h_i h 1 43) + 1)) 1 44 ((h_i h 1 44) + 1)) (kI K)))) ∧ (x3 = 2 → vp_in ((h_i h 1 44) + 2) 560 ∧ (vp_in s0 1800 ∧ ((¬ x3 = 3 → (¬ x3 = 2 → AW (m_X12_unfold (d + 1) 0 0) 0 0 5 [(0, .ref 1), (2, .int x2)] [] (h_im (h_im (h_im (h_im (h_im h 228 s0.toNatClampNeg x3) 229 s0.toNatClampNeg 0) 230 s0.toNatClampNeg (h_i h 226 (((h_i h 1 44) + 2) : Int32).toNatClampNeg)) 1 43 ((h_i h 1 43) + 1)) 1 44 ((h_i h 1 44) + 2)) (kI K)) ∧ (x3 = 2 → AW (m_X12_unfold (d + 1) 0 0) 0 0 5 [(0, .ref 1), (2, .int x2)] [] (h_im (h_im (h_im (h_im (h_im h 228 s0.toNatClampNeg x3) 229 s0.toNatClampNeg 0) 230 s0.toNatClampNeg (h_i h 226 (((h_i h 1 44) + 2) : Int32).toNatClampNeg)) 1 43 ((h_i h 1 43) + 1)) 1 44 ((h_i h 1 44) + 3)) (kI K))) ∧ (x3 = 3 → AW (m_X12_unfold (d + 1) 0 0) 0 0 5 [(0, .ref 1), (2, .int x2)] [] (h_im (h_im (h_im (h_im (h_im h 228 s0.toNatClampNeg x3) 229 s0.toNatClampNeg 0) 230 s0.toNatClampNeg (h_i h 226 (((h_i h 1 44) + 2) : Int32).toNatClampNeg)) 1 43 ((h_i h 1 43) + 1)) 1 44 ((h_i h 1 44) + 1)) (kI K)))))))))) : AW (m_X12_unfold (d + 1) 0 0) 0 0 158 [(0, .ref 1), (2, .int x2), (3, .int x3)] [.int s0] h (kI K) := by
  refine aw_istore [(0, .ref 1), (2, .int x2), (3, .int x3), (4, .int s0)] d_X12_unfold_158 (Nat.le_of_ble_eq_true rfl) rfl rfl ?_
  refine aw_iload_n (i := 2) rfl d_X12_unfold_160 1 rfl ?_
  refine aw_if_eq (tgt := 226) d_X12_unfold_161 rfl (fun c13 => ?_) (fun c13 => ?_)
  · have k := k.1 c13
    refine aw_aload_n (i := 0) rfl d_X12_unfold_226 0 rfl ?_
    refine aw_dup d_X12_unfold_227 rfl ?_
    refine aw_geti (k0 := 43) kc_12 (ws_1 w) (Nat.le_of_ble_eq_true rfl) tw_1785 d_X12_unfold_228 rfl ?_
    refine aw_iconst (v := 1) d_X12_unfold_231 ic_1 ?_
    refine aw_iadd d_X12_unfold_232 ?_
    refine aw_puti (k0 := 43) kc_12 (ws_1 w) (Nat.le_of_ble_eq_true rfl) tw_1785 d_X12_unfold_233 rfl rfl nf_i ?_
    refine aw_aload_n (i := 0) rfl d_X12_unfold_236 0 rfl ?_
    refine aw_dup d_X12_unfold_237 rfl ?_
    refine aw_geti (k0 := 44) kc_12 (ws_1 w) (Nat.le_of_ble_eq_true rfl) tw_1786 d_X12_unfold_238 rfl ?_
    refine aw_vi (v2 := (h_i h 1 44)) (rfl) ?_
    refine aw_iload_n (i := 3) rfl d_X12_unfold_241 2 rfl ?_
    refine aw_iconst (v := 3) d_X12_unfold_242 ic_3 ?_
    refine aw_icmp_ne (tgt := 250) d_X12_unfold_243 rfl (fun c14 => ?_) (fun c14 => ?_)
    · have k := k.1 c14
      refine aw_iload_n (i := 3) rfl d_X12_unfold_250 2 rfl ?_
      refine aw_iconst (v := 2) d_X12_unfold_251 ic_2 ?_
      refine aw_icmp_ne (tgt := 259) d_X12_unfold_252 rfl (fun c15 => ?_) (fun c15 => ?_)
      · have k := k.1 c15
        refine aw_iconst (v := 2) d_X12_unfold_259 ic_2 ?_
        refine aw_iadd d_X12_unfold_260 ?_
        refine aw_puti (k0 := 44) kc_12 (ws_1 w) (Nat.le_of_ble_eq_true rfl) tw_1786 d_X12_unfold_261 rfl rfl nf_i ?_
        refine aw_goto (tgt := 5) d_X12_unfold_264 rfl ?_
        exact aw_lvp [0, 1] [(0, .ref 1), (2, .int x2)] rfl k
      · have k := k.2 c15
        refine aw_iconst (v := 3) d_X12_unfold_255 ic_3 ?_
        refine aw_goto (tgt := 260) d_X12_unfold_256 rfl ?_
        refine aw_iadd d_X12_unfold_260 ?_
        refine aw_puti (k0 := 44) kc_12 (ws_1 w) (Nat.le_of_ble_eq_true rfl) tw_1786 d_X12_unfold_261 rfl rfl nf_i ?_
        refine aw_goto (tgt := 5) d_X12_unfold_264 rfl ?_
        exact aw_lvp [0, 1] [(0, .ref 1), (2, .int x2)] rfl k
    · have k := k.2 c14
      refine aw_iconst (v := 1) d_X12_unfold_246 ic_1 ?_
      refine aw_goto (tgt := 260) d_X12_unfold_247 rfl ?_
      refine aw_iadd d_X12_unfold_260 ?_
      refine aw_puti (k0 := 44) kc_12 (ws_1 w) (Nat.le_of_ble_eq_true rfl) tw_1786 d_X12_unfold_261 rfl rfl nf_i ?_
      refine aw_goto (tgt := 5) d_X12_unfold_264 rfl ?_
      exact aw_lvp [0, 1] [(0, .ref 1), (2, .int x2)] rfl k
  · have k := k.2 c13
    refine aw_aload_n (i := 0) rfl d_X12_unfold_164 0 rfl ?_
    refine aw_getr (k0 := 39) kc_12 (ws_1 w) (Nat.le_of_ble_eq_true rfl) tw_1781 d_X12_unfold_165 rfl (wr_1_39 w) ?_
    refine aw_iload d_X12_unfold_168 3 rfl ?_
    refine aw_iload_n (i := 3) rfl d_X12_unfold_170 2 rfl ?_
    obtain ⟨b16, k⟩ := k
    refine aw_iast (ws_228 w) b16 d_X12_unfold_171 ?_
    refine aw_aload_n (i := 0) rfl d_X12_unfold_172 0 rfl ?_
    refine aw_getr (k0 := 40) kc_12 (ws_1 w) (Nat.le_of_ble_eq_true rfl) tw_1782 d_X12_unfold_173 rfl (wr_1_40 w) ?_
    refine aw_iload d_X12_unfold_176 3 rfl ?_
    refine aw_iload_n (i := 3) rfl d_X12_unfold_178 2 rfl ?_
    refine aw_iconst (v := 3) d_X12_unfold_179 ic_3 ?_
    refine aw_icmp_ne (tgt := 187) d_X12_unfold_180 rfl (fun c17 => ?_) (fun c17 => ?_)
    · have k := k.1 c17
      refine aw_aload_n (i := 0) rfl d_X12_unfold_187 0 rfl ?_
      refine aw_getr (k0 := 31) kc_12 (ws_1 w) (Nat.le_of_ble_eq_true rfl) tw_1773 d_X12_unfold_188 rfl (wr_1_31 w) ?_
      refine aw_aload_n (i := 0) rfl d_X12_unfold_191 0 rfl ?_
      refine aw_geti (k0 := 44) kc_12 (ws_1 w) (Nat.le_of_ble_eq_true rfl) tw_1786 d_X12_unfold_192 rfl ?_
      refine aw_vi (v2 := (h_i h 1 44)) (rfl) ?_
      refine aw_iconst (v := 1) d_X12_unfold_195 ic_1 ?_
      refine aw_iadd d_X12_unfold_196 ?_
      obtain ⟨b18, k⟩ := k
      refine aw_iald (ws_226 w) b18 d_X12_unfold_197 ?_
      refine aw_vi (v2 := (h_i h 226 (((h_i h 1 44) + 1) : Int32).toNatClampNeg)) (rfl) ?_
      obtain ⟨b19, k⟩ := k
      refine aw_iast (ws_229 w) b19 d_X12_unfold_198 ?_
      refine aw_aload_n (i := 0) rfl d_X12_unfold_199 0 rfl ?_
      refine aw_getr (k0 := 41) kc_12 (ws_1 w) (Nat.le_of_ble_eq_true rfl) tw_1783 d_X12_unfold_200 rfl (wr_1_41 w) ?_
      refine aw_iload d_X12_unfold_203 3 rfl ?_
      refine aw_iload_n (i := 3) rfl d_X12_unfold_205 2 rfl ?_
      refine aw_iconst (v := 2) d_X12_unfold_206 ic_2 ?_
      refine aw_icmp_ne (tgt := 224) d_X12_unfold_207 rfl (fun c20 => ?_) (fun c20 => ?_)
      · have k := k.1 c20
        refine aw_iconst (v := 0) d_X12_unfold_224 ic_0 ?_
        obtain ⟨b21, k⟩ := k
        refine aw_iast (ws_230 w) b21 d_X12_unfold_225 ?_
        refine aw_aload_n (i := 0) rfl d_X12_unfold_226 0 rfl ?_
        refine aw_dup d_X12_unfold_227 rfl ?_
        refine aw_geti (k0 := 43) kc_12 (ws_1 w) (Nat.le_of_ble_eq_true rfl) tw_1785 d_X12_unfold_228 rfl ?_
        refine aw_vi (v2 := (h_i h 1 43)) (rfl) ?_
        refine aw_iconst (v := 1) d_X12_unfold_231 ic_1 ?_
        refine aw_iadd d_X12_unfold_232 ?_
        refine aw_puti (k0 := 43) kc_12 (ws_1 w) (Nat.le_of_ble_eq_true rfl) tw_1785 d_X12_unfold_233 rfl rfl nf_i ?_
        refine aw_aload_n (i := 0) rfl d_X12_unfold_236 0 rfl ?_
        refine aw_dup d_X12_unfold_237 rfl ?_
        refine aw_geti (k0 := 44) kc_12 (ws_1 w) (Nat.le_of_ble_eq_true rfl) tw_1786 d_X12_unfold_238 rfl ?_
        refine aw_vi (v2 := (h_i h 1 44)) (rfl) ?_
        refine aw_iload_n (i := 3) rfl d_X12_unfold_241 2 rfl ?_
        refine aw_iconst (v := 3) d_X12_unfold_242 ic_3 ?_
        refine aw_icmp_ne (tgt := 250) d_X12_unfold_243 rfl (fun c22 => ?_) (fun c22 => ?_)
        · have k := k.1 c22
          refine aw_iload_n (i := 3) rfl d_X12_unfold_250 2 rfl ?_
          refine aw_iconst (v := 2) d_X12_unfold_251 ic_2 ?_
          refine aw_icmp_ne (tgt := 259) d_X12_unfold_252 rfl (fun c23 => ?_) (fun c23 => ?_)
          · have k := k.1 c23
            refine aw_iconst (v := 2) d_X12_unfold_259 ic_2 ?_
            refine aw_iadd d_X12_unfold_260 ?_
            refine aw_puti (k0 := 44) kc_12 (ws_1 w) (Nat.le_of_ble_eq_true rfl) tw_1786 d_X12_unfold_261 rfl rfl nf_i ?_
            refine aw_goto (tgt := 5) d_X12_unfold_264 rfl ?_
            exact aw_lvp [0, 1] [(0, .ref 1), (2, .int x2)] rfl k
          · have k := k.2 c23
            refine aw_iconst (v := 3) d_X12_unfold_255 ic_3 ?_
            refine aw_goto (tgt := 260) d_X12_unfold_256 rfl ?_
            refine aw_iadd d_X12_unfold_260 ?_
            refine aw_puti (k0 := 44) kc_12 (ws_1 w) (Nat.le_of_ble_eq_true rfl) tw_1786 d_X12_unfold_261 rfl rfl nf_i ?_
            refine aw_goto (tgt := 5) d_X12_unfold_264 rfl ?_
            exact aw_lvp [0, 1] [(0, .ref 1), (2, .int x2)] rfl k
        · have k := k.2 c22
          refine aw_iconst (v := 1) d_X12_unfold_246 ic_1 ?_
          refine aw_goto (tgt := 260) d_X12_unfold_247 rfl ?_
          refine aw_iadd d_X12_unfold_260 ?_
          refine aw_puti (k0 := 44) kc_12 (ws_1 w) (Nat.le_of_ble_eq_true rfl) tw_1786 d_X12_unfold_261 rfl rfl nf_i ?_
          refine aw_goto (tgt := 5) d_X12_unfold_264 rfl ?_
          exact aw_lvp [0, 1] [(0, .ref 1), (2, .int x2)] rfl k
      · have k := k.2 c20
        refine aw_aload_n (i := 0) rfl d_X12_unfold_210 0 rfl ?_
        refine aw_getr (k0 := 31) kc_12 (ws_1 w) (Nat.le_of_ble_eq_true rfl) tw_1773 d_X12_unfold_211 rfl (wr_1_31 w) ?_
        refine aw_aload_n (i := 0) rfl d_X12_unfold_214 0 rfl ?_
        refine aw_geti (k0 := 44) kc_12 (ws_1 w) (Nat.le_of_ble_eq_true rfl) tw_1786 d_X12_unfold_215 rfl ?_
        refine aw_vi (v2 := (h_i h 1 44)) (rfl) ?_
        refine aw_iconst (v := 2) d_X12_unfold_218 ic_2 ?_
        refine aw_iadd d_X12_unfold_219 ?_
        obtain ⟨b24, k⟩ := k
        refine aw_iald (ws_226 w) b24 d_X12_unfold_220 ?_
        refine aw_vi (v2 := (h_i h 226 (((h_i h 1 44) + 2) : Int32).toNatClampNeg)) (rfl) ?_
        refine aw_goto (tgt := 225) d_X12_unfold_221 rfl ?_
        obtain ⟨b25, k⟩ := k
        refine aw_iast (ws_230 w) b25 d_X12_unfold_225 ?_
        refine aw_aload_n (i := 0) rfl d_X12_unfold_226 0 rfl ?_
        refine aw_dup d_X12_unfold_227 rfl ?_
        refine aw_geti (k0 := 43) kc_12 (ws_1 w) (Nat.le_of_ble_eq_true rfl) tw_1785 d_X12_unfold_228 rfl ?_
        refine aw_vi (v2 := (h_i h 1 43)) (rfl) ?_
        refine aw_iconst (v := 1) d_X12_unfold_231 ic_1 ?_
        refine aw_iadd d_X12_unfold_232 ?_
        refine aw_puti (k0 := 43) kc_12 (ws_1 w) (Nat.le_of_ble_eq_true rfl) tw_1785 d_X12_unfold_233 rfl rfl nf_i ?_
        refine aw_aload_n (i := 0) rfl d_X12_unfold_236 0 rfl ?_
        refine aw_dup d_X12_unfold_237 rfl ?_
        refine aw_geti (k0 := 44) kc_12 (ws_1 w) (Nat.le_of_ble_eq_true rfl) tw_1786 d_X12_unfold_238 rfl ?_
        refine aw_vi (v2 := (h_i h 1 44)) (rfl) ?_
        refine aw_iload_n (i := 3) rfl d_X12_unfold_241 2 rfl ?_
        refine aw_iconst (v := 3) d_X12_unfold_242 ic_3 ?_
        refine aw_icmp_ne (tgt := 250) d_X12_unfold_243 rfl (fun c26 => ?_) (fun c26 => ?_)
        · have k := k.1 c26
          refine aw_iload_n (i := 3) rfl d_X12_unfold_250 2 rfl ?_
          refine aw_iconst (v := 2) d_X12_unfold_251 ic_2 ?_
          refine aw_icmp_ne (tgt := 259) d_X12_unfold_252 rfl (fun c27 => ?_) (fun c27 => ?_)
          · have k := k.1 c27
            refine aw_iconst (v := 2) d_X12_unfold_259 ic_2 ?_
            refine aw_iadd d_X12_unfold_260 ?_
            refine aw_puti (k0 := 44) kc_12 (ws_1 w) (Nat.le_of_ble_eq_true rfl) tw_1786 d_X12_unfold_261 rfl rfl nf_i ?_
            refine aw_goto (tgt := 5) d_X12_unfold_264 rfl ?_
            exact aw_lvp [0, 1] [(0, .ref 1), (2, .int x2)] rfl k
          · have k := k.2 c27
            refine aw_iconst (v := 3) d_X12_unfold_255 ic_3 ?_
            refine aw_goto (tgt := 260) d_X12_unfold_256 rfl ?_
            refine aw_iadd d_X12_unfold_260 ?_
            refine aw_puti (k0 := 44) kc_12 (ws_1 w) (Nat.le_of_ble_eq_true rfl) tw_1786 d_X12_unfold_261 rfl rfl nf_i ?_
            refine aw_goto (tgt := 5) d_X12_unfold_264 rfl ?_
            exact aw_lvp [0, 1] [(0, .ref 1), (2, .int x2)] rfl k
        · have k := k.2 c26
          refine aw_iconst (v := 1) d_X12_unfold_246 ic_1 ?_
          refine aw_goto (tgt := 260) d_X12_unfold_247 rfl ?_
          refine aw_iadd d_X12_unfold_260 ?_
          refine aw_puti (k0 := 44) kc_12 (ws_1 w) (Nat.le_of_ble_eq_true rfl) tw_1786 d_X12_unfold_261 rfl rfl nf_i ?_
          refine aw_goto (tgt := 5) d_X12_unfold_264 rfl ?_
          exact aw_lvp [0, 1] [(0, .ref 1), (2, .int x2)] rfl k
    · have k := k.2 c17
      refine aw_iconst (v := 0) d_X12_unfold_183 ic_0 ?_
      refine aw_goto (tgt := 198) d_X12_unfold_184 rfl ?_
      obtain ⟨b28, k⟩ := k
      refine aw_iast (ws_229 w) b28 d_X12_unfold_198 ?_
      refine aw_aload_n (i := 0) rfl d_X12_unfold_199 0 rfl ?_
      refine aw_getr (k0 := 41) kc_12 (ws_1 w) (Nat.le_of_ble_eq_true rfl) tw_1783 d_X12_unfold_200 rfl (wr_1_41 w) ?_
      refine aw_iload d_X12_unfold_203 3 rfl ?_
      refine aw_iload_n (i := 3) rfl d_X12_unfold_205 2 rfl ?_
      refine aw_iconst (v := 2) d_X12_unfold_206 ic_2 ?_
      refine aw_icmp_ne (tgt := 224) d_X12_unfold_207 rfl (fun c29 => ?_) (fun c29 => ?_)
      · have k := k.1 c29
        refine aw_iconst (v := 0) d_X12_unfold_224 ic_0 ?_
        obtain ⟨b30, k⟩ := k
        refine aw_iast (ws_230 w) b30 d_X12_unfold_225 ?_
        refine aw_aload_n (i := 0) rfl d_X12_unfold_226 0 rfl ?_
        refine aw_dup d_X12_unfold_227 rfl ?_
        refine aw_geti (k0 := 43) kc_12 (ws_1 w) (Nat.le_of_ble_eq_true rfl) tw_1785 d_X12_unfold_228 rfl ?_
        refine aw_vi (v2 := (h_i h 1 43)) (rfl) ?_
        refine aw_iconst (v := 1) d_X12_unfold_231 ic_1 ?_
        refine aw_iadd d_X12_unfold_232 ?_
        refine aw_puti (k0 := 43) kc_12 (ws_1 w) (Nat.le_of_ble_eq_true rfl) tw_1785 d_X12_unfold_233 rfl rfl nf_i ?_
        refine aw_aload_n (i := 0) rfl d_X12_unfold_236 0 rfl ?_
        refine aw_dup d_X12_unfold_237 rfl ?_
        refine aw_geti (k0 := 44) kc_12 (ws_1 w) (Nat.le_of_ble_eq_true rfl) tw_1786 d_X12_unfold_238 rfl ?_
        refine aw_vi (v2 := (h_i h 1 44)) (rfl) ?_
        refine aw_iload_n (i := 3) rfl d_X12_unfold_241 2 rfl ?_
        refine aw_iconst (v := 3) d_X12_unfold_242 ic_3 ?_
        refine aw_icmp_ne (tgt := 250) d_X12_unfold_243 rfl (fun c31 => ?_) (fun c31 => ?_)
        · have k := k.1 c31
          refine aw_iload_n (i := 3) rfl d_X12_unfold_250 2 rfl ?_
          refine aw_iconst (v := 2) d_X12_unfold_251 ic_2 ?_
          refine aw_icmp_ne (tgt := 259) d_X12_unfold_252 rfl (fun c32 => ?_) (fun c32 => ?_)
          · have k := k.1 c32
            refine aw_iconst (v := 2) d_X12_unfold_259 ic_2 ?_
            refine aw_iadd d_X12_unfold_260 ?_
            refine aw_puti (k0 := 44) kc_12 (ws_1 w) (Nat.le_of_ble_eq_true rfl) tw_1786 d_X12_unfold_261 rfl rfl nf_i ?_
            refine aw_goto (tgt := 5) d_X12_unfold_264 rfl ?_
            exact aw_lvp [0, 1] [(0, .ref 1), (2, .int x2)] rfl k
          · have k := k.2 c32
            refine aw_iconst (v := 3) d_X12_unfold_255 ic_3 ?_
            refine aw_goto (tgt := 260) d_X12_unfold_256 rfl ?_
            refine aw_iadd d_X12_unfold_260 ?_
            refine aw_puti (k0 := 44) kc_12 (ws_1 w) (Nat.le_of_ble_eq_true rfl) tw_1786 d_X12_unfold_261 rfl rfl nf_i ?_
            refine aw_goto (tgt := 5) d_X12_unfold_264 rfl ?_
            exact aw_lvp [0, 1] [(0, .ref 1), (2, .int x2)] rfl k
        · have k := k.2 c31
          refine aw_iconst (v := 1) d_X12_unfold_246 ic_1 ?_
          refine aw_goto (tgt := 260) d_X12_unfold_247 rfl ?_
          refine aw_iadd d_X12_unfold_260 ?_
          refine aw_puti (k0 := 44) kc_12 (ws_1 w) (Nat.le_of_ble_eq_true rfl) tw_1786 d_X12_unfold_261 rfl rfl nf_i ?_
          refine aw_goto (tgt := 5) d_X12_unfold_264 rfl ?_
          exact aw_lvp [0, 1] [(0, .ref 1), (2, .int x2)] rfl k
      · have k := k.2 c29
        refine aw_aload_n (i := 0) rfl d_X12_unfold_210 0 rfl ?_
        refine aw_getr (k0 := 31) kc_12 (ws_1 w) (Nat.le_of_ble_eq_true rfl) tw_1773 d_X12_unfold_211 rfl (wr_1_31 w) ?_
        refine aw_aload_n (i := 0) rfl d_X12_unfold_214 0 rfl ?_
        refine aw_geti (k0 := 44) kc_12 (ws_1 w) (Nat.le_of_ble_eq_true rfl) tw_1786 d_X12_unfold_215 rfl ?_
        refine aw_vi (v2 := (h_i h 1 44)) (rfl) ?_
        refine aw_iconst (v := 2) d_X12_unfold_218 ic_2 ?_
        refine aw_iadd d_X12_unfold_219 ?_
        obtain ⟨b33, k⟩ := k
        refine aw_iald (ws_226 w) b33 d_X12_unfold_220 ?_
        refine aw_vi (v2 := (h_i h 226 (((h_i h 1 44) + 2) : Int32).toNatClampNeg)) (rfl) ?_
        refine aw_goto (tgt := 225) d_X12_unfold_221 rfl ?_
        obtain ⟨b34, k⟩ := k
        refine aw_iast (ws_230 w) b34 d_X12_unfold_225 ?_
        refine aw_aload_n (i := 0) rfl d_X12_unfold_226 0 rfl ?_
        refine aw_dup d_X12_unfold_227 rfl ?_
        refine aw_geti (k0 := 43) kc_12 (ws_1 w) (Nat.le_of_ble_eq_true rfl) tw_1785 d_X12_unfold_228 rfl ?_
        refine aw_vi (v2 := (h_i h 1 43)) (rfl) ?_
        refine aw_iconst (v := 1) d_X12_unfold_231 ic_1 ?_
        refine aw_iadd d_X12_unfold_232 ?_
        refine aw_puti (k0 := 43) kc_12 (ws_1 w) (Nat.le_of_ble_eq_true rfl) tw_1785 d_X12_unfold_233 rfl rfl nf_i ?_
        refine aw_aload_n (i := 0) rfl d_X12_unfold_236 0 rfl ?_
        refine aw_dup d_X12_unfold_237 rfl ?_
        refine aw_geti (k0 := 44) kc_12 (ws_1 w) (Nat.le_of_ble_eq_true rfl) tw_1786 d_X12_unfold_238 rfl ?_
        refine aw_vi (v2 := (h_i h 1 44)) (rfl) ?_
        refine aw_iload_n (i := 3) rfl d_X12_unfold_241 2 rfl ?_
        refine aw_iconst (v := 3) d_X12_unfold_242 ic_3 ?_
        refine aw_icmp_ne (tgt := 250) d_X12_unfold_243 rfl (fun c35 => ?_) (fun c35 => ?_)
        · have k := k.1 c35
          refine aw_iload_n (i := 3) rfl d_X12_unfold_250 2 rfl ?_
          refine aw_iconst (v := 2) d_X12_unfold_251 ic_2 ?_
          refine aw_icmp_ne (tgt := 259) d_X12_unfold_252 rfl (fun c36 => ?_) (fun c36 => ?_)
          · have k := k.1 c36
            refine aw_iconst (v := 2) d_X12_unfold_259 ic_2 ?_
            refine aw_iadd d_X12_unfold_260 ?_
            refine aw_puti (k0 := 44) kc_12 (ws_1 w) (Nat.le_of_ble_eq_true rfl) tw_1786 d_X12_unfold_261 rfl rfl nf_i ?_
            refine aw_goto (tgt := 5) d_X12_unfold_264 rfl ?_
            exact aw_lvp [0, 1] [(0, .ref 1), (2, .int x2)] rfl k
          · have k := k.2 c36
            refine aw_iconst (v := 3) d_X12_unfold_255 ic_3 ?_
            refine aw_goto (tgt := 260) d_X12_unfold_256 rfl ?_
            refine aw_iadd d_X12_unfold_260 ?_
            refine aw_puti (k0 := 44) kc_12 (ws_1 w) (Nat.le_of_ble_eq_true rfl) tw_1786 d_X12_unfold_261 rfl rfl nf_i ?_
            refine aw_goto (tgt := 5) d_X12_unfold_264 rfl ?_
            exact aw_lvp [0, 1] [(0, .ref 1), (2, .int x2)] rfl k
        · have k := k.2 c35
          refine aw_iconst (v := 1) d_X12_unfold_246 ic_1 ?_
          refine aw_goto (tgt := 260) d_X12_unfold_247 rfl ?_
          refine aw_iadd d_X12_unfold_260 ?_
          refine aw_puti (k0 := 44) kc_12 (ws_1 w) (Nat.le_of_ble_eq_true rfl) tw_1786 d_X12_unfold_261 rfl rfl nf_i ?_
          refine aw_goto (tgt := 5) d_X12_unfold_264 rfl ?_
          exact aw_lvp [0, 1] [(0, .ref 1), (2, .int x2)] rfl k
theorem t_X12_unfold_84 (d : Nat) (h : Hp_) (w : Wf h) (x2 : Int32) (x4 : Int32) (x5 : Int32) (x6 : Int32) (x7 : Int32) (K : Int32 → Hp_ → Prop) (k : (x6 ≤ x7 → AW (m_X12_unfold (d + 1) 0 0) 0 0 5 [(0, .ref 1), (2, .int x2)] [] (h_im h 1 44 (x5 + 2)) (kI K)) ∧ (¬ x6 ≤ x7 → Ci (m_X12_unfold (d + 0) 0 0) [.ref 1, .int x4, .int x2] h (fun r40 h38 => Wf h38 ∧ ((¬ r40 = 0 → AW (m_X12_unfold (d + 1) 0 0) 0 0 84 [(0, .ref 1), (2, .int x2), (4, .int x4), (5, .int x5), (6, .int x6), (7, .int (x7 + 1))] [] h38 (kI K)) ∧ (r40 = 0 → K 0 h38))))) : AW (m_X12_unfold (d + 1) 0 0) 0 0 84 [(0, .ref 1), (2, .int x2), (4, .int x4), (5, .int x5), (6, .int x6), (7, .int x7)] [] h (kI K) := by
  refine aw_iload d_X12_unfold_84 5 rfl ?_
  refine aw_iload d_X12_unfold_86 4 rfl ?_
  refine aw_icmp_ge (tgt := 109) d_X12_unfold_88 rfl (fun c37 => ?_) (fun c37 => ?_)
  · have k := k.1 c37
    refine aw_aload_n (i := 0) rfl d_X12_unfold_109 0 rfl ?_
    refine aw_iload d_X12_unfold_110 3 rfl ?_
    refine aw_iconst (v := 2) d_X12_unfold_112 ic_2 ?_
    refine aw_iadd d_X12_unfold_113 ?_
    refine aw_puti (k0 := 44) kc_12 (ws_1 w) (Nat.le_of_ble_eq_true rfl) tw_1786 d_X12_unfold_114 rfl rfl nf_i ?_
    refine aw_goto (tgt := 5) d_X12_unfold_117 rfl ?_
    exact aw_lvp [0, 1] [(0, .ref 1), (2, .int x2)] rfl k
  · have k := k.2 c37
    refine aw_aload_n (i := 0) rfl d_X12_unfold_91 0 rfl ?_
    refine aw_iload d_X12_unfold_92 2 rfl ?_
    refine aw_iload_n (i := 2) rfl d_X12_unfold_94 1 rfl ?_
    refine aw_Vi 1 [.int x4, .int x2] [] d_X12_unfold_95 (cV_X12_unfold (d + 0) 0 0) kc_12 (ws_1 w) tw_2279 rfl (rr0 (Nat.le_of_ble_eq_true rfl) (Nat.le_of_ble_eq_true rfl)) (Nat.le_of_ble_eq_true rfl) xs0 k (fun r40 h38 kk => ?_)
    obtain ⟨w39, k⟩ := kk
    refine aw_if_ne (tgt := 103) d_X12_unfold_98 rfl (fun c41 => ?_) (fun c41 => ?_)
    · have k := k.1 c41
      refine aw_iinc (v := (x7 + 1)) [(0, .ref 1), (2, .int x2), (4, .int x4), (5, .int x5), (6, .int x6), (7, .int (x7 + 1))] d_X12_unfold_103 5 rfl rfl (Nat.le_of_ble_eq_true rfl) rfl rfl ?_
      refine aw_goto (tgt := 84) d_X12_unfold_106 rfl ?_
      exact k
    · have k := k.2 c41
      refine aw_iconst (v := 0) d_X12_unfold_101 ic_0 ?_
      exact aw_zret rfl rfl d_X12_unfold_102 ⟨Nat.le_refl _, Nat.le_refl _⟩ ⟨_, rfl, k⟩
