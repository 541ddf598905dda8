theorem t_X12_walkOf (d : Nat) (h : Hp_) (x1 : Int32) (x2 : Int32) (K : Int32 → Hp_ → Prop) (k : AW (m_X12_walkOf (d + 0) 0 0) 0 0 2 [(0, .ref 1), (1, .int x1), (2, .int x2), (3, .int 0)] [] h (kI K)) : Ci (m_X12_walkOf (d + 0) 0 0) [.ref 1, .int x1, .int x2] h K := by
  refine Ct.of (fun _ _ _ => trivial) rfl (Nat.le_of_ble_eq_true rfl) ?_
  show AW (m_X12_walkOf (d + 0) 0 0) 0 0 0 [(0, .ref 1), (1, .int x1), (2, .int x2)] [] h (kI K)
  refine aw_iconst (v := 0) d_X12_walkOf_0 ic_0 ?_
  refine aw_istore_n (i := 3) rfl [(0, .ref 1), (1, .int x1), (2, .int x2), (3, .int 0)] d_X12_walkOf_1 (Nat.le_of_ble_eq_true rfl) rfl rfl ?_
  exact k
theorem t_X12_walkOf_2 (d : Nat) (h : Hp_) (w : Wf h) (x1 : Int32) (x2 : Int32) (x3 : Int32) (K : Int32 → Hp_ → Prop) (k : (16 ≤ x3 → AW (m_X12_walkOf (d + 0) 0 0) 0 0 34 [(0, .ref 1), (2, .int x2), (3, .int 1)] [] h (kI K)) ∧ (¬ 16 ≤ x3 → (¬ x3 = x1 → vp_in x3 16 ∧ (AW (m_X12_walkOf (d + 0) 0 0) 0 0 2 [(0, .ref 1), (1, .int x1), (2, .int x2), (3, .int (x3 + 1))] [] (h_im h 203 x3.toNatClampNeg 100000) (kI K))) ∧ (x3 = x1 → vp_in x3 16 ∧ (AW (m_X12_walkOf (d + 0) 0 0) 0 0 2 [(0, .ref 1), (1, .int x1), (2, .int x2), (3, .int (x3 + 1))] [] (h_im h 203 x3.toNatClampNeg 0) (kI K))))) : AW (m_X12_walkOf (d + 0) 0 0) 0 0 2 [(0, .ref 1), (1, .int x1), (2, .int x2), (3, .int x3)] [] h (kI K) := by
  refine aw_iload_n (i := 3) rfl d_X12_walkOf_2 3 rfl ?_
  refine aw_bipush (v := 16) d_X12_walkOf_3 ib_16 ?_
  refine aw_icmp_ge (tgt := 32) d_X12_walkOf_5 rfl (fun c1 => ?_) (fun c1 => ?_)
  · have k := k.1 c1
    refine aw_iconst (v := 1) d_X12_walkOf_32 ic_1 ?_
    refine aw_istore_n (i := 3) rfl [(0, .ref 1), (1, .int x1), (2, .int x2), (3, .int 1)] d_X12_walkOf_33 (Nat.le_of_ble_eq_true rfl) rfl rfl ?_
    exact aw_lvp [0, 2, 3] [(0, .ref 1), (2, .int x2), (3, .int 1)] rfl k
  · have k := k.2 c1
    refine aw_aload_n (i := 0) rfl d_X12_walkOf_8 0 rfl ?_
    refine aw_getr (k0 := 5) kc_12 (ws_1 w) (Nat.le_of_ble_eq_true rfl) tw_1747 d_X12_walkOf_9 rfl (wr_1_5 w) ?_
    refine aw_iload_n (i := 3) rfl d_X12_walkOf_12 3 rfl ?_
    refine aw_iload_n (i := 3) rfl d_X12_walkOf_13 3 rfl ?_
    refine aw_iload_n (i := 1) rfl d_X12_walkOf_14 1 rfl ?_
    refine aw_icmp_ne (tgt := 22) d_X12_walkOf_15 rfl (fun c2 => ?_) (fun c2 => ?_)
    · have k := k.1 c2
      refine aw_ldcw (v := 100000) d_X12_walkOf_22 tw_2154 ?_
      obtain ⟨b3, k⟩ := k
      refine aw_iast (ws_203 w) b3 d_X12_walkOf_25 ?_
      refine aw_iinc (v := (x3 + 1)) [(0, .ref 1), (1, .int x1), (2, .int x2), (3, .int (x3 + 1))] d_X12_walkOf_26 3 rfl rfl (Nat.le_of_ble_eq_true rfl) rfl rfl ?_
      refine aw_goto (tgt := 2) d_X12_walkOf_29 rfl ?_
      exact k
    · have k := k.2 c2
      refine aw_iconst (v := 0) d_X12_walkOf_18 ic_0 ?_
      refine aw_goto (tgt := 25) d_X12_walkOf_19 rfl ?_
      obtain ⟨b4, k⟩ := k
      refine aw_iast (ws_203 w) b4 d_X12_walkOf_25 ?_
      refine aw_iinc (v := (x3 + 1)) [(0, .ref 1), (1, .int x1), (2, .int x2), (3, .int (x3 + 1))] d_X12_walkOf_26 3 rfl rfl (Nat.le_of_ble_eq_true rfl) rfl rfl ?_
      refine aw_goto (tgt := 2) d_X12_walkOf_29 rfl ?_
      exact k
theorem t_X12_walkOf_34 (d : Nat) (h : Hp_) (w : Wf h) (x2 : Int32) (x3 : Int32) (K : Int32 → Hp_ → Prop) (k : (x3 = 0 → vp_in x2 16 ∧ (((h_i h 203 x2.toNatClampNeg) < 100000 → vp_in x2 16 ∧ (K (h_i h 203 x2.toNatClampNeg) h)) ∧ (¬ (h_i h 203 x2.toNatClampNeg) < 100000 → K (-1) h))) ∧ (¬ x3 = 0 → AW (m_X12_walkOf (d + 0) 0 0) 0 0 43 [(0, .ref 1), (2, .int x2), (3, .int 0), (4, .int 0)] [] h (kI K))) : AW (m_X12_walkOf (d + 0) 0 0) 0 0 34 [(0, .ref 1), (2, .int x2), (3, .int x3)] [] h (kI K) := by
  refine aw_iload_n (i := 3) rfl d_X12_walkOf_34 2 rfl ?_
  refine aw_if_eq (tgt := 177) d_X12_walkOf_35 rfl (fun c5 => ?_) (fun c5 => ?_)
  · have k := k.1 c5
    refine aw_aload_n (i := 0) rfl d_X12_walkOf_177 0 rfl ?_
    refine aw_getr (k0 := 5) kc_12 (ws_1 w) (Nat.le_of_ble_eq_true rfl) tw_1747 d_X12_walkOf_178 rfl (wr_1_5 w) ?_
    refine aw_iload_n (i := 2) rfl d_X12_walkOf_181 1 rfl ?_
    obtain ⟨b6, k⟩ := k
    refine aw_iald (ws_203 w) b6 d_X12_walkOf_182 ?_
    refine aw_ldcw (v := 100000) d_X12_walkOf_183 tw_2154 ?_
    refine aw_icmp_lt (tgt := 193) d_X12_walkOf_186 rfl (fun c7 => ?_) (fun c7 => ?_)
    · have k := k.1 c7
      refine aw_aload_n (i := 0) rfl d_X12_walkOf_193 0 rfl ?_
      refine aw_getr (k0 := 5) kc_12 (ws_1 w) (Nat.le_of_ble_eq_true rfl) tw_1747 d_X12_walkOf_194 rfl (wr_1_5 w) ?_
      refine aw_iload_n (i := 2) rfl d_X12_walkOf_197 1 rfl ?_
      obtain ⟨b8, k⟩ := k
      refine aw_iald (ws_203 w) b8 d_X12_walkOf_198 ?_
      exact aw_iret rfl d_X12_walkOf_199 ⟨Nat.le_refl _, Nat.le_refl _⟩ ⟨_, rfl, k⟩
    · have k := k.2 c7
      refine aw_iconst (v := (-1)) d_X12_walkOf_189 ic_m1 ?_
      refine aw_goto (tgt := 199) d_X12_walkOf_190 rfl ?_
      exact aw_iret rfl d_X12_walkOf_199 ⟨Nat.le_refl _, Nat.le_refl _⟩ ⟨_, rfl, k⟩
  · have k := k.2 c5
    refine aw_iconst (v := 0) d_X12_walkOf_38 ic_0 ?_
    refine aw_istore_n (i := 3) rfl [(0, .ref 1), (2, .int x2), (3, .int 0)] d_X12_walkOf_39 (Nat.le_of_ble_eq_true rfl) rfl rfl ?_
    refine aw_iconst (v := 0) d_X12_walkOf_40 ic_0 ?_
    refine aw_istore [(0, .ref 1), (2, .int x2), (3, .int 0), (4, .int 0)] d_X12_walkOf_41 (Nat.le_of_ble_eq_true rfl) rfl rfl ?_
    exact k
theorem t_X12_walkOf_43 (d : Nat) (h : Hp_) (w : Wf h) (x2 : Int32) (x3 : Int32) (x4 : Int32) (K : Int32 → Hp_ → Prop) (k : ((h_i h 1 6) ≤ x4 → AW (m_X12_walkOf (d + 0) 0 0) 0 0 34 [(0, .ref 1), (2, .int x2), (3, .int x3)] [] h (kI K)) ∧ (¬ (h_i h 1 6) ≤ x4 → vp_in x4 40 ∧ (vp_in x4 40 ∧ (vp_in (h_i h 200 x4.toNatClampNeg) 16 ∧ (vp_in x4 40 ∧ (vp_in (h_i h 201 x4.toNatClampNeg) 16 ∧ (((h_i h 203 ((h_i h 201 x4.toNatClampNeg) : Int32).toNatClampNeg) ≤ ((h_i h 203 ((h_i h 200 x4.toNatClampNeg) : Int32).toNatClampNeg) + (h_i h 202 x4.toNatClampNeg)) → vp_in (h_i h 201 x4.toNatClampNeg) 16 ∧ (vp_in x4 40 ∧ (vp_in (h_i h 200 x4.toNatClampNeg) 16 ∧ (((h_i h 203 ((h_i h 200 x4.toNatClampNeg) : Int32).toNatClampNeg) ≤ ((h_i h 203 ((h_i h 201 x4.toNatClampNeg) : Int32).toNatClampNeg) + (h_i h 202 x4.toNatClampNeg)) → AW (m_X12_walkOf (d + 0) 0 0) 0 0 43 [(0, .ref 1), (2, .int x2), (3, .int x3), (4, .int (x4 + 1))] [] h (kI K)) ∧ (¬ (h_i h 203 ((h_i h 200 x4.toNatClampNeg) : Int32).toNatClampNeg) ≤ ((h_i h 203 ((h_i h 201 x4.toNatClampNeg) : Int32).toNatClampNeg) + (h_i h 202 x4.toNatClampNeg)) → vp_in (h_i h 201 x4.toNatClampNeg) 16 ∧ (vp_in x4 40 ∧ (vp_in (h_i h 200 x4.toNatClampNeg) 16 ∧ (AW (m_X12_walkOf (d + 0) 0 0) 0 0 43 [(0, .ref 1), (2, .int x2), (3, .int 1), (4, .int (x4 + 1))] [] (h_im h 203 ((h_i h 200 x4.toNatClampNeg) : Int32).toNatClampNeg ((h_i h 203 ((h_i h 201 x4.toNatClampNeg) : Int32).toNatClampNeg) + (h_i h 202 x4.toNatClampNeg))) (kI K))))))))) ∧ (¬ (h_i h 203 ((h_i h 201 x4.toNatClampNeg) : Int32).toNatClampNeg) ≤ ((h_i h 203 ((h_i h 200 x4.toNatClampNeg) : Int32).toNatClampNeg) + (h_i h 202 x4.toNatClampNeg)) → vp_in (h_i h 200 x4.toNatClampNeg) 16 ∧ (vp_in x4 40 ∧ (vp_in (h_i h 201 x4.toNatClampNeg) 16 ∧ (vp_in (h_i h 201 x4.toNatClampNeg) 16 ∧ (vp_in x4 40 ∧ (vp_in (h_i h 200 x4.toNatClampNeg) 16 ∧ (((h_i (h_im h 203 ((h_i h 201 x4.toNatClampNeg) : Int32).toNatClampNeg ((h_i h 203 ((h_i h 200 x4.toNatClampNeg) : Int32).toNatClampNeg) + (h_i h 202 x4.toNatClampNeg))) 203 ((h_i h 200 x4.toNatClampNeg) : Int32).toNatClampNeg) ≤ (((h_i h 203 ((h_i h 200 x4.toNatClampNeg) : Int32).toNatClampNeg) + (h_i h 202 x4.toNatClampNeg)) + (h_i h 202 x4.toNatClampNeg)) → AW (m_X12_walkOf (d + 0) 0 0) 0 0 43 [(0, .ref 1), (2, .int x2), (3, .int 1), (4, .int (x4 + 1))] [] (h_im h 203 ((h_i h 201 x4.toNatClampNeg) : Int32).toNatClampNeg ((h_i h 203 ((h_i h 200 x4.toNatClampNeg) : Int32).toNatClampNeg) + (h_i h 202 x4.toNatClampNeg))) (kI K)) ∧ (¬ (h_i (h_im h 203 ((h_i h 201 x4.toNatClampNeg) : Int32).toNatClampNeg ((h_i h 203 ((h_i h 200 x4.toNatClampNeg) : Int32).toNatClampNeg) + (h_i h 202 x4.toNatClampNeg))) 203 ((h_i h 200 x4.toNatClampNeg) : Int32).toNatClampNeg) ≤ (((h_i h 203 ((h_i h 200 x4.toNatClampNeg) : Int32).toNatClampNeg) + (h_i h 202 x4.toNatClampNeg)) + (h_i h 202 x4.toNatClampNeg)) → vp_in (h_i h 201 x4.toNatClampNeg) 16 ∧ (vp_in x4 40 ∧ (vp_in (h_i h 200 x4.toNatClampNeg) 16 ∧ (AW (m_X12_walkOf (d + 0) 0 0) 0 0 43 [(0, .ref 1), (2, .int x2), (3, .int 1), (4, .int (x4 + 1))] [] (h_im (h_im h 203 ((h_i h 201 x4.toNatClampNeg) : Int32).toNatClampNeg ((h_i h 203 ((h_i h 200 x4.toNatClampNeg) : Int32).toNatClampNeg) + (h_i h 202 x4.toNatClampNeg))) 203 ((h_i h 200 x4.toNatClampNeg) : Int32).toNatClampNeg (((h_i h 203 ((h_i h 200 x4.toNatClampNeg) : Int32).toNatClampNeg) + (h_i h 202 x4.toNatClampNeg)) + (h_i h 202 x4.toNatClampNeg))) (kI K))))))))))))))))))) : AW (m_X12_walkOf (d + 0) 0 0) 0 0 43 [(0, .ref 1), (2, .int x2), (3, .int x3), (4, .int x4)] [] h (kI K) := by
  refine aw_iload d_X12_walkOf_43 3 rfl ?_
  refine aw_aload_n (i := 0) rfl d_X12_walkOf_45 0 rfl ?_
  refine aw_geti (k0 := 6) kc_12 (ws_1 w) (Nat.le_of_ble_eq_true rfl) tw_1748 d_X12_walkOf_46 rfl ?_
  refine aw_icmp_ge (tgt := 174) d_X12_walkOf_49 rfl (fun c9 => ?_) (fun c9 => ?_)
  · have k := k.1 c9
    refine aw_goto (tgt := 34) d_X12_walkOf_174 rfl ?_
    exact aw_lvp [0, 1, 2] [(0, .ref 1), (2, .int x2), (3, .int x3)] rfl k
  · have k := k.2 c9
    refine aw_aload_n (i := 0) rfl d_X12_walkOf_52 0 rfl ?_
    refine aw_getr (k0 := 2) kc_12 (ws_1 w) (Nat.le_of_ble_eq_true rfl) tw_1744 d_X12_walkOf_53 rfl (wr_1_2 w) ?_
    refine aw_iload d_X12_walkOf_56 3 rfl ?_
    obtain ⟨b10, k⟩ := k
    refine aw_iald (ws_200 w) b10 d_X12_walkOf_58 ?_
    refine aw_istore [(0, .ref 1), (2, .int x2), (3, .int x3), (4, .int x4), (5, .int (h_i h 200 x4.toNatClampNeg))] d_X12_walkOf_59 (Nat.le_of_ble_eq_true rfl) rfl rfl ?_
    refine aw_aload_n (i := 0) rfl d_X12_walkOf_61 0 rfl ?_
    refine aw_getr (k0 := 3) kc_12 (ws_1 w) (Nat.le_of_ble_eq_true rfl) tw_1745 d_X12_walkOf_62 rfl (wr_1_3 w) ?_
    refine aw_iload d_X12_walkOf_65 3 rfl ?_
    obtain ⟨b11, k⟩ := k
    refine aw_iald (ws_201 w) b11 d_X12_walkOf_67 ?_
    refine aw_istore [(0, .ref 1), (2, .int x2), (3, .int x3), (4, .int x4), (5, .int (h_i h 200 x4.toNatClampNeg)), (6, .int (h_i h 201 x4.toNatClampNeg))] d_X12_walkOf_68 (Nat.le_of_ble_eq_true rfl) rfl rfl ?_
    refine aw_aload_n (i := 0) rfl d_X12_walkOf_70 0 rfl ?_
    refine aw_getr (k0 := 5) kc_12 (ws_1 w) (Nat.le_of_ble_eq_true rfl) tw_1747 d_X12_walkOf_71 rfl (wr_1_5 w) ?_
    refine aw_iload d_X12_walkOf_74 4 rfl ?_
    obtain ⟨b12, k⟩ := k
    refine aw_iald (ws_203 w) b12 d_X12_walkOf_76 ?_
    refine aw_aload_n (i := 0) rfl d_X12_walkOf_77 0 rfl ?_
    refine aw_getr (k0 := 4) kc_12 (ws_1 w) (Nat.le_of_ble_eq_true rfl) tw_1746 d_X12_walkOf_78 rfl (wr_1_4 w) ?_
    refine aw_iload d_X12_walkOf_81 3 rfl ?_
    obtain ⟨b13, k⟩ := k
    refine aw_iald (ws_202 w) b13 d_X12_walkOf_83 ?_
    refine aw_iadd d_X12_walkOf_84 ?_
    refine aw_aload_n (i := 0) rfl d_X12_walkOf_85 0 rfl ?_
    refine aw_getr (k0 := 5) kc_12 (ws_1 w) (Nat.le_of_ble_eq_true rfl) tw_1747 d_X12_walkOf_86 rfl (wr_1_5 w) ?_
    refine aw_iload d_X12_walkOf_89 5 rfl ?_
    obtain ⟨b14, k⟩ := k
    refine aw_iald (ws_203 w) b14 d_X12_walkOf_91 ?_
    refine aw_icmp_ge (tgt := 119) d_X12_walkOf_92 rfl (fun c15 => ?_) (fun c15 => ?_)
    · have k := k.1 c15
      refine aw_aload_n (i := 0) rfl d_X12_walkOf_119 0 rfl ?_
      refine aw_getr (k0 := 5) kc_12 (ws_1 w) (Nat.le_of_ble_eq_true rfl) tw_1747 d_X12_walkOf_120 rfl (wr_1_5 w) ?_
      refine aw_iload d_X12_walkOf_123 5 rfl ?_
      obtain ⟨b16, k⟩ := k
      refine aw_iald (ws_203 w) b16 d_X12_walkOf_125 ?_
      refine aw_aload_n (i := 0) rfl d_X12_walkOf_126 0 rfl ?_
      refine aw_getr (k0 := 4) kc_12 (ws_1 w) (Nat.le_of_ble_eq_true rfl) tw_1746 d_X12_walkOf_127 rfl (wr_1_4 w) ?_
      refine aw_iload d_X12_walkOf_130 3 rfl ?_
      obtain ⟨b17, k⟩ := k
      refine aw_iald (ws_202 w) b17 d_X12_walkOf_132 ?_
      refine aw_iadd d_X12_walkOf_133 ?_
      refine aw_aload_n (i := 0) rfl d_X12_walkOf_134 0 rfl ?_
      refine aw_getr (k0 := 5) kc_12 (ws_1 w) (Nat.le_of_ble_eq_true rfl) tw_1747 d_X12_walkOf_135 rfl (wr_1_5 w) ?_
      refine aw_iload d_X12_walkOf_138 4 rfl ?_
      obtain ⟨b18, k⟩ := k
      refine aw_iald (ws_203 w) b18 d_X12_walkOf_140 ?_
      refine aw_icmp_ge (tgt := 168) d_X12_walkOf_141 rfl (fun c19 => ?_) (fun c19 => ?_)
      · have k := k.1 c19
        refine aw_iinc (v := (x4 + 1)) [(0, .ref 1), (2, .int x2), (3, .int x3), (4, .int (x4 + 1)), (5, .int (h_i h 200 x4.toNatClampNeg)), (6, .int (h_i h 201 x4.toNatClampNeg))] d_X12_walkOf_168 3 rfl rfl (Nat.le_of_ble_eq_true rfl) rfl rfl ?_
        refine aw_goto (tgt := 43) d_X12_walkOf_171 rfl ?_
        exact aw_lvp [0, 1, 2, 3] [(0, .ref 1), (2, .int x2), (3, .int x3), (4, .int (x4 + 1))] rfl k
      · have k := k.2 c19
        refine aw_aload_n (i := 0) rfl d_X12_walkOf_144 0 rfl ?_
        refine aw_getr (k0 := 5) kc_12 (ws_1 w) (Nat.le_of_ble_eq_true rfl) tw_1747 d_X12_walkOf_145 rfl (wr_1_5 w) ?_
        refine aw_iload d_X12_walkOf_148 4 rfl ?_
        refine aw_aload_n (i := 0) rfl d_X12_walkOf_150 0 rfl ?_
        refine aw_getr (k0 := 5) kc_12 (ws_1 w) (Nat.le_of_ble_eq_true rfl) tw_1747 d_X12_walkOf_151 rfl (wr_1_5 w) ?_
        refine aw_iload d_X12_walkOf_154 5 rfl ?_
        obtain ⟨b20, k⟩ := k
        refine aw_iald (ws_203 w) b20 d_X12_walkOf_156 ?_
        refine aw_aload_n (i := 0) rfl d_X12_walkOf_157 0 rfl ?_
        refine aw_getr (k0 := 4) kc_12 (ws_1 w) (Nat.le_of_ble_eq_true rfl) tw_1746 d_X12_walkOf_158 rfl (wr_1_4 w) ?_
        refine aw_iload d_X12_walkOf_161 3 rfl ?_
        obtain ⟨b21, k⟩ := k
        refine aw_iald (ws_202 w) b21 d_X12_walkOf_163 ?_
        refine aw_iadd d_X12_walkOf_164 ?_
        obtain ⟨b22, k⟩ := k
        refine aw_iast (ws_203 w) b22 d_X12_walkOf_165 ?_
        refine aw_iconst (v := 1) d_X12_walkOf_166 ic_1 ?_
        refine aw_istore_n (i := 3) rfl [(0, .ref 1), (2, .int x2), (3, .int 1), (4, .int x4), (5, .int (h_i h 200 x4.toNatClampNeg)), (6, .int (h_i h 201 x4.toNatClampNeg))] d_X12_walkOf_167 (Nat.le_of_ble_eq_true rfl) rfl rfl ?_
        refine aw_iinc (v := (x4 + 1)) [(0, .ref 1), (2, .int x2), (3, .int 1), (4, .int (x4 + 1)), (5, .int (h_i h 200 x4.toNatClampNeg)), (6, .int (h_i h 201 x4.toNatClampNeg))] d_X12_walkOf_168 3 rfl rfl (Nat.le_of_ble_eq_true rfl) rfl rfl ?_
        refine aw_goto (tgt := 43) d_X12_walkOf_171 rfl ?_
        exact aw_lvp [0, 1, 2, 3] [(0, .ref 1), (2, .int x2), (3, .int 1), (4, .int (x4 + 1))] rfl k
    · have k := k.2 c15
      refine aw_aload_n (i := 0) rfl d_X12_walkOf_95 0 rfl ?_
      refine aw_getr (k0 := 5) kc_12 (ws_1 w) (Nat.le_of_ble_eq_true rfl) tw_1747 d_X12_walkOf_96 rfl (wr_1_5 w) ?_
      refine aw_iload d_X12_walkOf_99 5 rfl ?_
      refine aw_aload_n (i := 0) rfl d_X12_walkOf_101 0 rfl ?_
      refine aw_getr (k0 := 5) kc_12 (ws_1 w) (Nat.le_of_ble_eq_true rfl) tw_1747 d_X12_walkOf_102 rfl (wr_1_5 w) ?_
      refine aw_iload d_X12_walkOf_105 4 rfl ?_
      obtain ⟨b23, k⟩ := k
      refine aw_iald (ws_203 w) b23 d_X12_walkOf_107 ?_
      refine aw_aload_n (i := 0) rfl d_X12_walkOf_108 0 rfl ?_
      refine aw_getr (k0 := 4) kc_12 (ws_1 w) (Nat.le_of_ble_eq_true rfl) tw_1746 d_X12_walkOf_109 rfl (wr_1_4 w) ?_
      refine aw_iload d_X12_walkOf_112 3 rfl ?_
      obtain ⟨b24, k⟩ := k
      refine aw_iald (ws_202 w) b24 d_X12_walkOf_114 ?_
      refine aw_iadd d_X12_walkOf_115 ?_
      obtain ⟨b25, k⟩ := k
      refine aw_iast (ws_203 w) b25 d_X12_walkOf_116 ?_
      refine aw_iconst (v := 1) d_X12_walkOf_117 ic_1 ?_
      refine aw_istore_n (i := 3) rfl [(0, .ref 1), (2, .int x2), (3, .int 1), (4, .int x4), (5, .int (h_i h 200 x4.toNatClampNeg)), (6, .int (h_i h 201 x4.toNatClampNeg))] d_X12_walkOf_118 (Nat.le_of_ble_eq_true rfl) rfl rfl ?_
      refine aw_aload_n (i := 0) rfl d_X12_walkOf_119 0 rfl ?_
      refine aw_getr (k0 := 5) kc_12 (ws_1 w) (Nat.le_of_ble_eq_true rfl) tw_1747 d_X12_walkOf_120 rfl (wr_1_5 w) ?_
      refine aw_iload d_X12_walkOf_123 5 rfl ?_
      obtain ⟨b26, k⟩ := k
      refine aw_iald (ws_203 w) b26 d_X12_walkOf_125 ?_
      refine aw_vi (v2 := ((h_i h 203 ((h_i h 200 x4.toNatClampNeg) : Int32).toNatClampNeg) + (h_i h 202 x4.toNatClampNeg))) (hi_s h 203 ((h_i h 201 x4.toNatClampNeg) : Int32).toNatClampNeg ((h_i h 203 ((h_i h 200 x4.toNatClampNeg) : Int32).toNatClampNeg) + (h_i h 202 x4.toNatClampNeg))) ?_
      refine aw_aload_n (i := 0) rfl d_X12_walkOf_126 0 rfl ?_
      refine aw_getr (k0 := 4) kc_12 (ws_1 w) (Nat.le_of_ble_eq_true rfl) tw_1746 d_X12_walkOf_127 rfl (wr_1_4 w) ?_
      refine aw_iload d_X12_walkOf_130 3 rfl ?_
      obtain ⟨b27, k⟩ := k
      refine aw_iald (ws_202 w) b27 d_X12_walkOf_132 ?_
      refine aw_vi (v2 := (h_i h 202 x4.toNatClampNeg)) (rfl) ?_
      refine aw_iadd d_X12_walkOf_133 ?_
      refine aw_aload_n (i := 0) rfl d_X12_walkOf_134 0 rfl ?_
      refine aw_getr (k0 := 5) kc_12 (ws_1 w) (Nat.le_of_ble_eq_true rfl) tw_1747 d_X12_walkOf_135 rfl (wr_1_5 w) ?_
      refine aw_iload d_X12_walkOf_138 4 rfl ?_
      obtain ⟨b28, k⟩ := k
      refine aw_iald (ws_203 w) b28 d_X12_walkOf_140 ?_
      refine aw_icmp_ge (tgt := 168) d_X12_walkOf_141 rfl (fun c29 => ?_) (fun c29 => ?_)
      · have k := k.1 c29
        refine aw_iinc (v := (x4 + 1)) [(0, .ref 1), (2, .int x2), (3, .int 1), (4, .int (x4 + 1)), (5, .int (h_i h 200 x4.toNatClampNeg)), (6, .int (h_i h 201 x4.toNatClampNeg))] d_X12_walkOf_168 3 rfl rfl (Nat.le_of_ble_eq_true rfl) rfl rfl ?_
        refine aw_goto (tgt := 43) d_X12_walkOf_171 rfl ?_
        exact aw_lvp [0, 1, 2, 3] [(0, .ref 1), (2, .int x2), (3, .int 1), (4, .int (x4 + 1))] rfl k
      · have k := k.2 c29
        refine aw_aload_n (i := 0) rfl d_X12_walkOf_144 0 rfl ?_
        refine aw_getr (k0 := 5) kc_12 (ws_1 w) (Nat.le_of_ble_eq_true rfl) tw_1747 d_X12_walkOf_145 rfl (wr_1_5 w) ?_
        refine aw_iload d_X12_walkOf_148 4 rfl ?_
        refine aw_aload_n (i := 0) rfl d_X12_walkOf_150 0 rfl ?_
        refine aw_getr (k0 := 5) kc_12 (ws_1 w) (Nat.le_of_ble_eq_true rfl) tw_1747 d_X12_walkOf_151 rfl (wr_1_5 w) ?_
        refine aw_iload d_X12_walkOf_154 5 rfl ?_
        obtain ⟨b30, k⟩ := k
        refine aw_iald (ws_203 w) b30 d_X12_walkOf_156 ?_
        refine aw_vi (v2 := ((h_i h 203 ((h_i h 200 x4.toNatClampNeg) : Int32).toNatClampNeg) + (h_i h 202 x4.toNatClampNeg))) (hi_s h 203 ((h_i h 201 x4.toNatClampNeg) : Int32).toNatClampNeg ((h_i h 203 ((h_i h 200 x4.toNatClampNeg) : Int32).toNatClampNeg) + (h_i h 202 x4.toNatClampNeg))) ?_
        refine aw_aload_n (i := 0) rfl d_X12_walkOf_157 0 rfl ?_
        refine aw_getr (k0 := 4) kc_12 (ws_1 w) (Nat.le_of_ble_eq_true rfl) tw_1746 d_X12_walkOf_158 rfl (wr_1_4 w) ?_
        refine aw_iload d_X12_walkOf_161 3 rfl ?_
        obtain ⟨b31, k⟩ := k
        refine aw_iald (ws_202 w) b31 d_X12_walkOf_163 ?_
        refine aw_vi (v2 := (h_i h 202 x4.toNatClampNeg)) (rfl) ?_
        refine aw_iadd d_X12_walkOf_164 ?_
        obtain ⟨b32, k⟩ := k
        refine aw_iast (ws_203 w) b32 d_X12_walkOf_165 ?_
        refine aw_iconst (v := 1) d_X12_walkOf_166 ic_1 ?_
        refine aw_istore_n (i := 3) rfl [(0, .ref 1), (2, .int x2), (3, .int 1), (4, .int x4), (5, .int (h_i h 200 x4.toNatClampNeg)), (6, .int (h_i h 201 x4.toNatClampNeg))] d_X12_walkOf_167 (Nat.le_of_ble_eq_true rfl) rfl rfl ?_
        refine aw_iinc (v := (x4 + 1)) [(0, .ref 1), (2, .int x2), (3, .int 1), (4, .int (x4 + 1)), (5, .int (h_i h 200 x4.toNatClampNeg)), (6, .int (h_i h 201 x4.toNatClampNeg))] d_X12_walkOf_168 3 rfl rfl (Nat.le_of_ble_eq_true rfl) rfl rfl ?_
        refine aw_goto (tgt := 43) d_X12_walkOf_171 rfl ?_
        exact aw_lvp [0, 1, 2, 3] [(0, .ref 1), (2, .int x2), (3, .int 1), (4, .int (x4 + 1))] rfl k
theorem t_X12_byteOf (d : Nat) (h : Hp_) (x0 : Int32) (x1 : Int32) (x2 : Int32) (x3 : Int32) (x4 : Int32) (x5 : Int32) (K : Int32 → Hp_ → Prop) (k : (4 ≤ x5 → (8 ≤ x5 → (12 ≤ x5 → (16 ≤ x5 → K ((x4 >>> ((24 - (8 * (x5 - x5 / 4 * 4))) &&& 31)) &&& 255) h) ∧ (¬ 16 ≤ x5 → K ((x3 >>> ((24 - (8 * (x5 - x5 / 4 * 4))) &&& 31)) &&& 255) h)) ∧ (¬ 12 ≤ x5 → K ((x2 >>> ((24 - (8 * (x5 - x5 / 4 * 4))) &&& 31)) &&& 255) h)) ∧ (¬ 8 ≤ x5 → K ((x1 >>> ((24 - (8 * (x5 - x5 / 4 * 4))) &&& 31)) &&& 255) h)) ∧ (¬ 4 ≤ x5 → K ((x0 >>> ((24 - (8 * (x5 - x5 / 4 * 4))) &&& 31)) &&& 255) h)) : Ci (m_X12_byteOf (d + 0) 0 0) [.int x0, .int x1, .int x2, .int x3, .int x4, .int x5] h K := by
  refine Ct.of (fun _ _ _ => trivial) rfl (Nat.le_of_ble_eq_true rfl) ?_
  show AW (m_X12_byteOf (d + 0) 0 0) 0 0 0 [(0, .int x0), (1, .int x1), (2, .int x2), (3, .int x3), (4, .int x4), (5, .int x5)] [] h (kI K)
  refine aw_iload d_X12_byteOf_0 5 rfl ?_
  refine aw_iconst (v := 4) d_X12_byteOf_2 ic_4 ?_
  refine aw_icmp_ge (tgt := 10) d_X12_byteOf_3 rfl (fun c1 => ?_) (fun c1 => ?_)
  · have k := k.1 c1
    refine aw_iload d_X12_byteOf_10 5 rfl ?_
    refine aw_bipush (v := 8) d_X12_byteOf_12 ib_8 ?_
    refine aw_icmp_ge (tgt := 21) d_X12_byteOf_14 rfl (fun c2 => ?_) (fun c2 => ?_)
    · have k := k.1 c2
      refine aw_iload d_X12_byteOf_21 5 rfl ?_
      refine aw_bipush (v := 12) d_X12_byteOf_23 ib_12 ?_
      refine aw_icmp_ge (tgt := 32) d_X12_byteOf_25 rfl (fun c3 => ?_) (fun c3 => ?_)
      · have k := k.1 c3
        refine aw_iload d_X12_byteOf_32 5 rfl ?_
        refine aw_bipush (v := 16) d_X12_byteOf_34 ib_16 ?_
        refine aw_icmp_ge (tgt := 43) d_X12_byteOf_36 rfl (fun c4 => ?_) (fun c4 => ?_)
        · have k := k.1 c4
          refine aw_iload d_X12_byteOf_43 4 rfl ?_
          refine aw_istore [(0, .int x0), (1, .int x1), (2, .int x2), (3, .int x3), (4, .int x4), (5, .int x5), (6, .int x4)] d_X12_byteOf_45 (Nat.le_of_ble_eq_true rfl) rfl rfl ?_
          refine aw_iload d_X12_byteOf_47 6 rfl ?_
          refine aw_bipush (v := 24) d_X12_byteOf_49 ib_24 ?_
          refine aw_bipush (v := 8) d_X12_byteOf_51 ib_8 ?_
          refine aw_iload d_X12_byteOf_53 5 rfl ?_
          refine aw_iconst (v := 4) d_X12_byteOf_55 ic_4 ?_
          refine aw_irem d_X12_byteOf_56 (by decide) ?_
          refine aw_imul d_X12_byteOf_57 ?_
          refine aw_isub d_X12_byteOf_58 ?_
          refine aw_ishr d_X12_byteOf_59 ?_
          refine aw_sipush (v := 255) d_X12_byteOf_60 is_255 ?_
          refine aw_iand d_X12_byteOf_63 ?_
          exact aw_iret rfl d_X12_byteOf_64 ⟨Nat.le_refl _, Nat.le_refl _⟩ ⟨_, rfl, k⟩
        · have k := k.2 c4
          refine aw_iload_n (i := 3) rfl d_X12_byteOf_39 3 rfl ?_
          refine aw_goto (tgt := 45) d_X12_byteOf_40 rfl ?_
          refine aw_istore [(0, .int x0), (1, .int x1), (2, .int x2), (3, .int x3), (4, .int x4), (5, .int x5), (6, .int x3)] d_X12_byteOf_45 (Nat.le_of_ble_eq_true rfl) rfl rfl ?_
          refine aw_iload d_X12_byteOf_47 6 rfl ?_
          refine aw_bipush (v := 24) d_X12_byteOf_49 ib_24 ?_
          refine aw_bipush (v := 8) d_X12_byteOf_51 ib_8 ?_
          refine aw_iload d_X12_byteOf_53 5 rfl ?_
          refine aw_iconst (v := 4) d_X12_byteOf_55 ic_4 ?_
          refine aw_irem d_X12_byteOf_56 (by decide) ?_
          refine aw_imul d_X12_byteOf_57 ?_
          refine aw_isub d_X12_byteOf_58 ?_
          refine aw_ishr d_X12_byteOf_59 ?_
          refine aw_sipush (v := 255) d_X12_byteOf_60 is_255 ?_
          refine aw_iand d_X12_byteOf_63 ?_
          exact aw_iret rfl d_X12_byteOf_64 ⟨Nat.le_refl _, Nat.le_refl _⟩ ⟨_, rfl, k⟩
      · have k := k.2 c3
        refine aw_iload_n (i := 2) rfl d_X12_byteOf_28 2 rfl ?_
        refine aw_goto (tgt := 45) d_X12_byteOf_29 rfl ?_
        refine aw_istore [(0, .int x0), (1, .int x1), (2, .int x2), (3, .int x3), (4, .int x4), (5, .int x5), (6, .int x2)] d_X12_byteOf_45 (Nat.le_of_ble_eq_true rfl) rfl rfl ?_
        refine aw_iload d_X12_byteOf_47 6 rfl ?_
        refine aw_bipush (v := 24) d_X12_byteOf_49 ib_24 ?_
        refine aw_bipush (v := 8) d_X12_byteOf_51 ib_8 ?_
        refine aw_iload d_X12_byteOf_53 5 rfl ?_
        refine aw_iconst (v := 4) d_X12_byteOf_55 ic_4 ?_
        refine aw_irem d_X12_byteOf_56 (by decide) ?_
        refine aw_imul d_X12_byteOf_57 ?_
        refine aw_isub d_X12_byteOf_58 ?_
        refine aw_ishr d_X12_byteOf_59 ?_
        refine aw_sipush (v := 255) d_X12_byteOf_60 is_255 ?_
        refine aw_iand d_X12_byteOf_63 ?_
        exact aw_iret rfl d_X12_byteOf_64 ⟨Nat.le_refl _, Nat.le_refl _⟩ ⟨_, rfl, k⟩
    · have k := k.2 c2
      refine aw_iload_n (i := 1) rfl d_X12_byteOf_17 1 rfl ?_
      refine aw_goto (tgt := 45) d_X12_byteOf_18 rfl ?_
      refine aw_istore [(0, .int x0), (1, .int x1), (2, .int x2), (3, .int x3), (4, .int x4), (5, .int x5), (6, .int x1)] d_X12_byteOf_45 (Nat.le_of_ble_eq_true rfl) rfl rfl ?_
      refine aw_iload d_X12_byteOf_47 6 rfl ?_
      refine aw_bipush (v := 24) d_X12_byteOf_49 ib_24 ?_
      refine aw_bipush (v := 8) d_X12_byteOf_51 ib_8 ?_
      refine aw_iload d_X12_byteOf_53 5 rfl ?_
      refine aw_iconst (v := 4) d_X12_byteOf_55 ic_4 ?_
      refine aw_irem d_X12_byteOf_56 (by decide) ?_
      refine aw_imul d_X12_byteOf_57 ?_
      refine aw_isub d_X12_byteOf_58 ?_
      refine aw_ishr d_X12_byteOf_59 ?_
      refine aw_sipush (v := 255) d_X12_byteOf_60 is_255 ?_
      refine aw_iand d_X12_byteOf_63 ?_
      exact aw_iret rfl d_X12_byteOf_64 ⟨Nat.le_refl _, Nat.le_refl _⟩ ⟨_, rfl, k⟩
  · have k := k.2 c1
    refine aw_iload_n (i := 0) rfl d_X12_byteOf_6 0 rfl ?_
    refine aw_goto (tgt := 45) d_X12_byteOf_7 rfl ?_
    refine aw_istore [(0, .int x0), (1, .int x1), (2, .int x2), (3, .int x3), (4, .int x4), (5, .int x5), (6, .int x0)] d_X12_byteOf_45 (Nat.le_of_ble_eq_true rfl) rfl rfl ?_
    refine aw_iload d_X12_byteOf_47 6 rfl ?_
    refine aw_bipush (v := 24) d_X12_byteOf_49 ib_24 ?_
    refine aw_bipush (v := 8) d_X12_byteOf_51 ib_8 ?_
    refine aw_iload d_X12_byteOf_53 5 rfl ?_
    refine aw_iconst (v := 4) d_X12_byteOf_55 ic_4 ?_
    refine aw_irem d_X12_byteOf_56 (by decide) ?_
    refine aw_imul d_X12_byteOf_57 ?_
    refine aw_isub d_X12_byteOf_58 ?_
    refine aw_ishr d_X12_byteOf_59 ?_
    refine aw_sipush (v := 255) d_X12_byteOf_60 is_255 ?_
    refine aw_iand d_X12_byteOf_63 ?_
    exact aw_iret rfl d_X12_byteOf_64 ⟨Nat.le_refl _, Nat.le_refl _⟩ ⟨_, rfl, k⟩
theorem t_X12_feed (d : Nat) (h : Hp_) (x1 : Int32) (x2 : Int32) (x3 : Int32) (x4 : Int32) (x5 : Int32) (K : Int32 → Hp_ → Prop) (k : AW (m_X12_feed (d + 1) 0 0) 0 0 6 [(0, .ref 1), (1, .int x1), (2, .int x2), (3, .int x3), (4, .int x4), (5, .int x5), (6, .int 0), (7, .int 0)] [] h (kI K)) : Ci (m_X12_feed (d + 1) 0 0) [.ref 1, .int x1, .int x2, .int x3, .int x4, .int x5] h K := by
  refine Ct.of (fun _ _ _ => trivial) rfl (Nat.le_of_ble_eq_true rfl) ?_
  show AW (m_X12_feed (d + 1) 0 0) 0 0 0 [(0, .ref 1), (1, .int x1), (2, .int x2), (3, .int x3), (4, .int x4), (5, .int x5)] [] h (kI K)
  refine aw_iconst (v := 0) d_X12_feed_0 ic_0 ?_
  refine aw_istore [(0, .ref 1), (1, .int x1), (2, .int x2), (3, .int x3), (4, .int x4), (5, .int x5), (6, .int 0)] d_X12_feed_1 (Nat.le_of_ble_eq_true rfl) rfl rfl ?_
  refine aw_iconst (v := 0) d_X12_feed_3 ic_0 ?_
  refine aw_istore [(0, .ref 1), (1, .int x1), (2, .int x2), (3, .int x3), (4, .int x4), (5, .int x5), (6, .int 0), (7, .int 0)] d_X12_feed_4 (Nat.le_of_ble_eq_true rfl) rfl rfl ?_
  exact k
theorem t_X12_feed_6 (d : Nat) (h : Hp_) (w : Wf h) (x1 : Int32) (x2 : Int32) (x3 : Int32) (x4 : Int32) (x5 : Int32) (x6 : Int32) (x7 : Int32) (K : Int32 → Hp_ → Prop) (k : (20 ≤ x7 → (((h_i h 1 32) + x6) ≤ 160 → AW (m_X12_feed (d + 1) 0 0) 0 0 62 [(0, .ref 1), (1, .int x1), (2, .int x2), (3, .int x3), (4, .int x4), (5, .int x5), (7, .int 0)] [] h (kI K)) ∧ (¬ ((h_i h 1 32) + x6) ≤ 160 → K (-1) h)) ∧ (¬ 20 ≤ x7 → Ci (m_X12_byteOf (d + 0) 0 0) [.int x1, .int x2, .int x3, .int x4, .int x5, .int x7] h (fun r5 h3 => Wf h3 ∧ ((r5 = 0 → AW (m_X12_feed (d + 1) 0 0) 0 0 6 [(0, .ref 1), (1, .int x1), (2, .int x2), (3, .int x3), (4, .int x4), (5, .int x5), (6, .int (x6 + 0)), (7, .int (x7 + 1))] [] h3 (kI K)) ∧ (¬ r5 = 0 → AW (m_X12_feed (d + 1) 0 0) 0 0 6 [(0, .ref 1), (1, .int x1), (2, .int x2), (3, .int x3), (4, .int x4), (5, .int x5), (6, .int (x6 + 1)), (7, .int (x7 + 1))] [] h3 (kI K)))))) : AW (m_X12_feed (d + 1) 0 0) 0 0 6 [(0, .ref 1), (1, .int x1), (2, .int x2), (3, .int x3), (4, .int x4), (5, .int x5), (6, .int x6), (7, .int x7)] [] h (kI K) := by
  refine aw_iload d_X12_feed_6 7 rfl ?_
  refine aw_bipush (v := 20) d_X12_feed_8 ib_20 ?_
  refine aw_icmp_ge (tgt := 44) d_X12_feed_10 rfl (fun c1 => ?_) (fun c1 => ?_)
  · have k := k.1 c1
    refine aw_aload_n (i := 0) rfl d_X12_feed_44 0 rfl ?_
    refine aw_geti (k0 := 32) kc_12 (ws_1 w) (Nat.le_of_ble_eq_true rfl) tw_1774 d_X12_feed_45 rfl ?_
    refine aw_iload d_X12_feed_48 6 rfl ?_
    refine aw_iadd d_X12_feed_50 ?_
    refine aw_sipush (v := 160) d_X12_feed_51 is_160 ?_
    refine aw_icmp_le (tgt := 59) d_X12_feed_54 rfl (fun c2 => ?_) (fun c2 => ?_)
    · have k := k.1 c2
      refine aw_iconst (v := 0) d_X12_feed_59 ic_0 ?_
      refine aw_istore [(0, .ref 1), (1, .int x1), (2, .int x2), (3, .int x3), (4, .int x4), (5, .int x5), (6, .int x6), (7, .int 0)] d_X12_feed_60 (Nat.le_of_ble_eq_true rfl) rfl rfl ?_
      exact aw_lvp [0, 1, 2, 3, 4, 5, 7] [(0, .ref 1), (1, .int x1), (2, .int x2), (3, .int x3), (4, .int x4), (5, .int x5), (7, .int 0)] rfl k
    · have k := k.2 c2
      refine aw_iconst (v := (-1)) d_X12_feed_57 ic_m1 ?_
      exact aw_iret rfl d_X12_feed_58 ⟨Nat.le_refl _, Nat.le_refl _⟩ ⟨_, rfl, k⟩
  · have k := k.2 c1
    refine aw_iload d_X12_feed_13 6 rfl ?_
    refine aw_iload_n (i := 1) rfl d_X12_feed_15 1 rfl ?_
    refine aw_iload_n (i := 2) rfl d_X12_feed_16 2 rfl ?_
    refine aw_iload_n (i := 3) rfl d_X12_feed_17 3 rfl ?_
    refine aw_iload d_X12_feed_18 4 rfl ?_
    refine aw_iload d_X12_feed_20 5 rfl ?_
    refine aw_iload d_X12_feed_22 7 rfl ?_
    refine aw_Si [.int x1, .int x2, .int x3, .int x4, .int x5, .int x7] [.int x6] d_X12_feed_24 (cS_X12_byteOf (d + 0) 0 0) tw_2183 rfl (rr0 (Nat.le_of_ble_eq_true rfl) (Nat.le_of_ble_eq_true rfl)) (Nat.le_of_ble_eq_true rfl) xs0 k (fun r5 h3 kk => ?_)
    obtain ⟨w4, k⟩ := kk
    refine aw_if_eq (tgt := 34) d_X12_feed_27 rfl (fun c6 => ?_) (fun c6 => ?_)
    · have k := k.1 c6
      refine aw_iconst (v := 0) d_X12_feed_34 ic_0 ?_
      refine aw_iadd d_X12_feed_35 ?_
      refine aw_istore [(0, .ref 1), (1, .int x1), (2, .int x2), (3, .int x3), (4, .int x4), (5, .int x5), (6, .int (x6 + 0)), (7, .int x7)] d_X12_feed_36 (Nat.le_of_ble_eq_true rfl) rfl rfl ?_
      refine aw_iinc (v := (x7 + 1)) [(0, .ref 1), (1, .int x1), (2, .int x2), (3, .int x3), (4, .int x4), (5, .int x5), (6, .int (x6 + 0)), (7, .int (x7 + 1))] d_X12_feed_38 7 rfl rfl (Nat.le_of_ble_eq_true rfl) rfl rfl ?_
      refine aw_goto (tgt := 6) d_X12_feed_41 rfl ?_
      exact k
    · have k := k.2 c6
      refine aw_iconst (v := 1) d_X12_feed_30 ic_1 ?_
      refine aw_goto (tgt := 35) d_X12_feed_31 rfl ?_
      refine aw_iadd d_X12_feed_35 ?_
      refine aw_istore [(0, .ref 1), (1, .int x1), (2, .int x2), (3, .int x3), (4, .int x4), (5, .int x5), (6, .int (x6 + 1)), (7, .int x7)] d_X12_feed_36 (Nat.le_of_ble_eq_true rfl) rfl rfl ?_
      refine aw_iinc (v := (x7 + 1)) [(0, .ref 1), (1, .int x1), (2, .int x2), (3, .int x3), (4, .int x4), (5, .int x5), (6, .int (x6 + 1)), (7, .int (x7 + 1))] d_X12_feed_38 7 rfl rfl (Nat.le_of_ble_eq_true rfl) rfl rfl ?_
      refine aw_goto (tgt := 6) d_X12_feed_41 rfl ?_
      exact k
theorem t_X12_feed_62 (d : Nat) (h : Hp_) (w : Wf h) (x1 : Int32) (x2 : Int32) (x3 : Int32) (x4 : Int32) (x5 : Int32) (x7 : Int32) (K : Int32 → Hp_ → Prop) (k : (20 ≤ x7 → K (h_i h 1 32) h) ∧ (¬ 20 ≤ x7 → Ci (m_X12_byteOf (d + 0) 0 0) [.int x1, .int x2, .int x3, .int x4, .int x5, .int x7] h (fun r10 h8 => Wf h8 ∧ ((r10 = 0 → AW (m_X12_feed (d + 1) 0 0) 0 0 62 [(0, .ref 1), (1, .int x1), (2, .int x2), (3, .int x3), (4, .int x4), (5, .int x5), (7, .int (x7 + 1))] [] h8 (kI K)) ∧ (¬ r10 = 0 → vp_in (h_i h8 1 32) 160 ∧ (AW (m_X12_feed (d + 1) 0 0) 0 0 62 [(0, .ref 1), (1, .int x1), (2, .int x2), (3, .int x3), (4, .int x4), (5, .int x5), (7, .int (x7 + 1))] [] (h_im (h_im h8 225 ((h_i h8 1 32) : Int32).toNatClampNeg r10) 1 32 ((h_i h8 1 32) + 1)) (kI K))))))) : AW (m_X12_feed (d + 1) 0 0) 0 0 62 [(0, .ref 1), (1, .int x1), (2, .int x2), (3, .int x3), (4, .int x4), (5, .int x5), (7, .int x7)] [] h (kI K) := by
  refine aw_iload d_X12_feed_62 6 rfl ?_
  refine aw_bipush (v := 20) d_X12_feed_64 ib_20 ?_
  refine aw_icmp_ge (tgt := 115) d_X12_feed_66 rfl (fun c7 => ?_) (fun c7 => ?_)
  · have k := k.1 c7
    refine aw_aload_n (i := 0) rfl d_X12_feed_115 0 rfl ?_
    refine aw_geti (k0 := 32) kc_12 (ws_1 w) (Nat.le_of_ble_eq_true rfl) tw_1774 d_X12_feed_116 rfl ?_
    exact aw_iret rfl d_X12_feed_119 ⟨Nat.le_refl _, Nat.le_refl _⟩ ⟨_, rfl, k⟩
  · have k := k.2 c7
    refine aw_iload_n (i := 1) rfl d_X12_feed_69 1 rfl ?_
    refine aw_iload_n (i := 2) rfl d_X12_feed_70 2 rfl ?_
    refine aw_iload_n (i := 3) rfl d_X12_feed_71 3 rfl ?_
    refine aw_iload d_X12_feed_72 4 rfl ?_
    refine aw_iload d_X12_feed_74 5 rfl ?_
    refine aw_iload d_X12_feed_76 6 rfl ?_
    refine aw_Si [.int x1, .int x2, .int x3, .int x4, .int x5, .int x7] [] d_X12_feed_78 (cS_X12_byteOf (d + 0) 0 0) tw_2183 rfl (rr0 (Nat.le_of_ble_eq_true rfl) (Nat.le_of_ble_eq_true rfl)) (Nat.le_of_ble_eq_true rfl) xs0 k (fun r10 h8 kk => ?_)
    obtain ⟨w9, k⟩ := kk
    refine aw_istore [(0, .ref 1), (1, .int x1), (2, .int x2), (3, .int x3), (4, .int x4), (5, .int x5), (7, .int x7), (8, .int r10)] d_X12_feed_81 (Nat.le_of_ble_eq_true rfl) rfl rfl ?_
    refine aw_iload d_X12_feed_83 7 rfl ?_
    refine aw_if_eq (tgt := 109) d_X12_feed_85 rfl (fun c11 => ?_) (fun c11 => ?_)
    · have k := k.1 c11
      refine aw_iinc (v := (x7 + 1)) [(0, .ref 1), (1, .int x1), (2, .int x2), (3, .int x3), (4, .int x4), (5, .int x5), (7, .int (x7 + 1)), (8, .int r10)] d_X12_feed_109 6 rfl rfl (Nat.le_of_ble_eq_true rfl) rfl rfl ?_
      refine aw_goto (tgt := 62) d_X12_feed_112 rfl ?_
      exact aw_lvp [0, 1, 2, 3, 4, 5, 6] [(0, .ref 1), (1, .int x1), (2, .int x2), (3, .int x3), (4, .int x4), (5, .int x5), (7, .int (x7 + 1))] rfl k
    · have k := k.2 c11
      refine aw_aload_n (i := 0) rfl d_X12_feed_88 0 rfl ?_
      refine aw_getr (k0 := 30) kc_12 (ws_1 w9) (Nat.le_of_ble_eq_true rfl) tw_1772 d_X12_feed_89 rfl (wr_1_30 w9) ?_
      refine aw_aload_n (i := 0) rfl d_X12_feed_92 0 rfl ?_
      refine aw_geti (k0 := 32) kc_12 (ws_1 w9) (Nat.le_of_ble_eq_true rfl) tw_1774 d_X12_feed_93 rfl ?_
      refine aw_iload d_X12_feed_96 7 rfl ?_
      obtain ⟨b12, k⟩ := k
      refine aw_iast (ws_225 w9) b12 d_X12_feed_98 ?_
      refine aw_aload_n (i := 0) rfl d_X12_feed_99 0 rfl ?_
      refine aw_dup d_X12_feed_100 rfl ?_
      refine aw_geti (k0 := 32) kc_12 (ws_1 w9) (Nat.le_of_ble_eq_true rfl) tw_1774 d_X12_feed_101 rfl ?_
      refine aw_vi (v2 := (h_i h8 1 32)) (rfl) ?_
      refine aw_iconst (v := 1) d_X12_feed_104 ic_1 ?_
      refine aw_iadd d_X12_feed_105 ?_
      refine aw_puti (k0 := 32) kc_12 (ws_1 w9) (Nat.le_of_ble_eq_true rfl) tw_1774 d_X12_feed_106 rfl rfl nf_i ?_
      refine aw_iinc (v := (x7 + 1)) [(0, .ref 1), (1, .int x1), (2, .int x2), (3, .int x3), (4, .int x4), (5, .int x5), (7, .int (x7 + 1)), (8, .int r10)] d_X12_feed_109 6 rfl rfl (Nat.le_of_ble_eq_true rfl) rfl rfl ?_
      refine aw_goto (tgt := 62) d_X12_feed_112 rfl ?_
      exact aw_lvp [0, 1, 2, 3, 4, 5, 6] [(0, .ref 1), (1, .int x1), (2, .int x2), (3, .int x3), (4, .int x4), (5, .int x5), (7, .int (x7 + 1))] rfl k
