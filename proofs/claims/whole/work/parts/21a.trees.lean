theorem t_X12_thrown (d : Nat) (h : Hp_) (w : Wf h)  (K : Int32 → Hp_ → Prop) (k : K (h_i h 1 1) h) : Ci (m_X12_thrown (d + 0) 0 0) [.ref 1] h K := by
  refine Ct.of (fun _ _ _ => trivial) rfl (Nat.le_of_ble_eq_true rfl) ?_
  show AW (m_X12_thrown (d + 0) 0 0) 0 0 0 [(0, .ref 1)] [] h (kI K)
  refine aw_aload_n (i := 0) rfl d_X12_thrown_0 0 rfl ?_
  refine aw_geti (k0 := 1) kc_12 (ws_1 w) (Nat.le_of_ble_eq_true rfl) tw_1743 d_X12_thrown_1 rfl ?_
  exact aw_iret rfl d_X12_thrown_4 ⟨Nat.le_refl _, Nat.le_refl _⟩ ⟨_, rfl, k⟩
theorem t_X12_walkOf (d : Nat) (h : Hp_) (x1 : Int32) (x2 : Int32) (K : Int32 → Hp_ → Prop) (k : AW (m_X12_walkOf (d + 0) 0 0) 0 0 2 [(0, .ref 1), (1, .int x1), (2, .int x2), (3, .int 0)] [] h (kI K)) : Ci (m_X12_walkOf (d + 0) 0 0) [.ref 1, .int x1, .int x2] h K := by
  refine Ct.of (fun _ _ _ => trivial) rfl (Nat.le_of_ble_eq_true rfl) ?_
  show AW (m_X12_walkOf (d + 0) 0 0) 0 0 0 [(0, .ref 1), (1, .int x1), (2, .int x2)] [] h (kI K)
  refine aw_iconst (v := 0) d_X12_walkOf_0 ic_0 ?_
  refine aw_istore_n (i := 3) rfl [(0, .ref 1), (1, .int x1), (2, .int x2), (3, .int 0)] d_X12_walkOf_1 (Nat.le_of_ble_eq_true rfl) rfl rfl ?_
  exact k
theorem t_X12_walkOf_2 (d : Nat) (h : Hp_) (w : Wf h) (x1 : Int32) (x2 : Int32) (x3 : Int32) (K : Int32 → Hp_ → Prop) (k : (16 ≤ x3 → AW (m_X12_walkOf (d + 0) 0 0) 0 0 34 [(0, .ref 1), (2, .int x2), (3, .int 1)] [] h (kI K)) ∧ (¬ 16 ≤ x3 → (¬ x3 = x1 → vp_in x3 16 ∧ (AW (m_X12_walkOf (d + 0) 0 0) 0 0 2 [(0, .ref 1), (1, .int x1), (2, .int x2), (3, .int (x3 + 1))] [] (h_im h 203 x3.toNatClampNeg 100000) (kI K))) ∧ (x3 = x1 → vp_in x3 16 ∧ (AW (m_X12_walkOf (d + 0) 0 0) 0 0 2 [(0, .ref 1), (1, .int x1), (2, .int x2), (3, .int (x3 + 1))] [] (h_im h 203 x3.toNatClampNeg 0) (kI K))))) : AW (m_X12_walkOf (d + 0) 0 0) 0 0 2 [(0, .ref 1), (1, .int x1), (2, .int x2), (3, .int x3)] [] h (kI K) := by
  refine aw_iload_n (i := 3) rfl d_X12_walkOf_2 3 rfl ?_
  refine aw_bipush (v := 16) d_X12_walkOf_3 ib_16 ?_
  refine aw_icmp_ge (tgt := 32) d_X12_walkOf_5 rfl (fun c1 => ?_) (fun c1 => ?_)
  · have k := k.1 c1
    refine aw_iconst (v := 1) d_X12_walkOf_32 ic_1 ?_
    refine aw_istore_n (i := 3) rfl [(0, .ref 1), (1, .int x1), (2, .int x2), (3, .int 1)] d_X12_walkOf_33 (Nat.le_of_ble_eq_true rfl) rfl rfl ?_
    exact aw_lvp [0, 2, 3] [(0, .ref 1), (2, .int x2), (3, .int 1)] rfl k
  · have k := k.2 c1
    refine aw_aload_n (i := 0) rfl d_X12_walkOf_8 0 rfl ?_
    refine aw_getr (k0 := 5) kc_12 (ws_1 w) (Nat.le_of_ble_eq_true rfl) tw_1747 d_X12_walkOf_9 rfl (wr_1_5 w) ?_
    refine aw_iload_n (i := 3) rfl d_X12_walkOf_12 3 rfl ?_
    refine aw_iload_n (i := 3) rfl d_X12_walkOf_13 3 rfl ?_
    refine aw_iload_n (i := 1) rfl d_X12_walkOf_14 1 rfl ?_
    refine aw_icmp_ne (tgt := 22) d_X12_walkOf_15 rfl (fun c2 => ?_) (fun c2 => ?_)
    · have k := k.1 c2
      refine aw_ldcw (v := 100000) d_X12_walkOf_22 tw_2158 ?_
      obtain ⟨b3, k⟩ := k
      refine aw_iast (ws_203 w) b3 d_X12_walkOf_25 ?_
      refine aw_iinc (v := (x3 + 1)) [(0, .ref 1), (1, .int x1), (2, .int x2), (3, .int (x3 + 1))] d_X12_walkOf_26 3 rfl rfl (Nat.le_of_ble_eq_true rfl) rfl rfl ?_
      refine aw_goto (tgt := 2) d_X12_walkOf_29 rfl ?_
      exact k
    · have k := k.2 c2
      refine aw_iconst (v := 0) d_X12_walkOf_18 ic_0 ?_
      refine aw_goto (tgt := 25) d_X12_walkOf_19 rfl ?_
      obtain ⟨b4, k⟩ := k
      refine aw_iast (ws_203 w) b4 d_X12_walkOf_25 ?_
      refine aw_iinc (v := (x3 + 1)) [(0, .ref 1), (1, .int x1), (2, .int x2), (3, .int (x3 + 1))] d_X12_walkOf_26 3 rfl rfl (Nat.le_of_ble_eq_true rfl) rfl rfl ?_
      refine aw_goto (tgt := 2) d_X12_walkOf_29 rfl ?_
      exact k
theorem t_X12_walkOf_34 (d : Nat) (h : Hp_) (w : Wf h) (x2 : Int32) (x3 : Int32) (K : Int32 → Hp_ → Prop) (k : (x3 = 0 → vp_in x2 16 ∧ (((h_i h 203 x2.toNatClampNeg) < 100000 → vp_in x2 16 ∧ (K (h_i h 203 x2.toNatClampNeg) h)) ∧ (¬ (h_i h 203 x2.toNatClampNeg) < 100000 → K (-1) h))) ∧ (¬ x3 = 0 → AW (m_X12_walkOf (d + 0) 0 0) 0 0 43 [(0, .ref 1), (2, .int x2), (3, .int 0), (4, .int 0)] [] h (kI K))) : AW (m_X12_walkOf (d + 0) 0 0) 0 0 34 [(0, .ref 1), (2, .int x2), (3, .int x3)] [] h (kI K) := by
  refine aw_iload_n (i := 3) rfl d_X12_walkOf_34 2 rfl ?_
  refine aw_if_eq (tgt := 177) d_X12_walkOf_35 rfl (fun c5 => ?_) (fun c5 => ?_)
  · have k := k.1 c5
    refine aw_aload_n (i := 0) rfl d_X12_walkOf_177 0 rfl ?_
    refine aw_getr (k0 := 5) kc_12 (ws_1 w) (Nat.le_of_ble_eq_true rfl) tw_1747 d_X12_walkOf_178 rfl (wr_1_5 w) ?_
    refine aw_iload_n (i := 2) rfl d_X12_walkOf_181 1 rfl ?_
    obtain ⟨b6, k⟩ := k
    refine aw_iald (ws_203 w) b6 d_X12_walkOf_182 ?_
    refine aw_ldcw (v := 100000) d_X12_walkOf_183 tw_2158 ?_
    refine aw_icmp_lt (tgt := 193) d_X12_walkOf_186 rfl (fun c7 => ?_) (fun c7 => ?_)
    · have k := k.1 c7
      refine aw_aload_n (i := 0) rfl d_X12_walkOf_193 0 rfl ?_
      refine aw_getr (k0 := 5) kc_12 (ws_1 w) (Nat.le_of_ble_eq_true rfl) tw_1747 d_X12_walkOf_194 rfl (wr_1_5 w) ?_
      refine aw_iload_n (i := 2) rfl d_X12_walkOf_197 1 rfl ?_
      obtain ⟨b8, k⟩ := k
      refine aw_iald (ws_203 w) b8 d_X12_walkOf_198 ?_
      exact aw_iret rfl d_X12_walkOf_199 ⟨Nat.le_refl _, Nat.le_refl _⟩ ⟨_, rfl, k⟩
    · have k := k.2 c7
      refine aw_iconst (v := (-1)) d_X12_walkOf_189 ic_m1 ?_
      refine aw_goto (tgt := 199) d_X12_walkOf_190 rfl ?_
      exact aw_iret rfl d_X12_walkOf_199 ⟨Nat.le_refl _, Nat.le_refl _⟩ ⟨_, rfl, k⟩
  · have k := k.2 c5
    refine aw_iconst (v := 0) d_X12_walkOf_38 ic_0 ?_
    refine aw_istore_n (i := 3) rfl [(0, .ref 1), (2, .int x2), (3, .int 0)] d_X12_walkOf_39 (Nat.le_of_ble_eq_true rfl) rfl rfl ?_
    refine aw_iconst (v := 0) d_X12_walkOf_40 ic_0 ?_
    refine aw_istore [(0, .ref 1), (2, .int x2), (3, .int 0), (4, .int 0)] d_X12_walkOf_41 (Nat.le_of_ble_eq_true rfl) rfl rfl ?_
    exact k
theorem t_X12_walkOf_43 (d : Nat) (h : Hp_) (w : Wf h) (x2 : Int32) (x3 : Int32) (x4 : Int32) (K : Int32 → Hp_ → Prop) (k : ((h_i h 1 6) ≤ x4 → AW (m_X12_walkOf (d + 0) 0 0) 0 0 34 [(0, .ref 1), (2, .int x2), (3, .int x3)] [] h (kI K)) ∧ (¬ (h_i h 1 6) ≤ x4 → vp_in x4 40 ∧ (vp_in x4 40 ∧ (vp_in (h_i h 200 x4.toNatClampNeg) 16 ∧ (vp_in x4 40 ∧ (vp_in (h_i h 201 x4.toNatClampNeg) 16 ∧ (((h_i h 203 ((h_i h 201 x4.toNatClampNeg) : Int32).toNatClampNeg) ≤ ((h_i h 203 ((h_i h 200 x4.toNatClampNeg) : Int32).toNatClampNeg) + (h_i h 202 x4.toNatClampNeg)) → vp_in (h_i h 201 x4.toNatClampNeg) 16 ∧ (vp_in x4 40 ∧ (vp_in (h_i h 200 x4.toNatClampNeg) 16 ∧ (((h_i h 203 ((h_i h 200 x4.toNatClampNeg) : Int32).toNatClampNeg) ≤ ((h_i h 203 ((h_i h 201 x4.toNatClampNeg) : Int32).toNatClampNeg) + (h_i h 202 x4.toNatClampNeg)) → AW (m_X12_walkOf (d + 0) 0 0) 0 0 43 [(0, .ref 1), (2, .int x2), (3, .int x3), (4, .int (x4 + 1))] [] h (kI K)) ∧ (¬ (h_i h 203 ((h_i h 200 x4.toNatClampNeg) : Int32).toNatClampNeg) ≤ ((h_i h 203 ((h_i h 201 x4.toNatClampNeg) : Int32).toNatClampNeg) + (h_i h 202 x4.toNatClampNeg)) → vp_in (h_i h 201 x4.toNatClampNeg) 16 ∧ (vp_in x4 40 ∧ (vp_in (h_i h 200 x4.toNatClampNeg) 16 ∧ (AW (m_X12_walkOf (d + 0) 0 0) 0 0 43 [(0, .ref 1), (2, .int x2), (3, .int 1), (4, .int (x4 + 1))] [] (h_im h 203 ((h_i h 200 x4.toNatClampNeg) : Int32).toNatClampNeg ((h_i h 203 ((h_i h 201 x4.toNatClampNeg) : Int32).toNatClampNeg) + (h_i h 202 x4.toNatClampNeg))) (kI K))))))))) ∧ (¬ (h_i h 203 ((h_i h 201 x4.toNatClampNeg) : Int32).toNatClampNeg) ≤ ((h_i h 203 ((h_i h 200 x4.toNatClampNeg) : Int32).toNatClampNeg) + (h_i h 202 x4.toNatClampNeg)) → vp_in (h_i h 200 x4.toNatClampNeg) 16 ∧ (vp_in x4 40 ∧ (vp_in (h_i h 201 x4.toNatClampNeg) 16 ∧ (vp_in (h_i h 201 x4.toNatClampNeg) 16 ∧ (vp_in x4 40 ∧ (vp_in (h_i h 200 x4.toNatClampNeg) 16 ∧ (((h_i (h_im h 203 ((h_i h 201 x4.toNatClampNeg) : Int32).toNatClampNeg ((h_i h 203 ((h_i h 200 x4.toNatClampNeg) : Int32).toNatClampNeg) + (h_i h 202 x4.toNatClampNeg))) 203 ((h_i h 200 x4.toNatClampNeg) : Int32).toNatClampNeg) ≤ (((h_i h 203 ((h_i h 200 x4.toNatClampNeg) : Int32).toNatClampNeg) + (h_i h 202 x4.toNatClampNeg)) + (h_i h 202 x4.toNatClampNeg)) → AW (m_X12_walkOf (d + 0) 0 0) 0 0 43 [(0, .ref 1), (2, .int x2), (3, .int 1), (4, .int (x4 + 1))] [] (h_im h 203 ((h_i h 201 x4.toNatClampNeg) : Int32).toNatClampNeg ((h_i h 203 ((h_i h 200 x4.toNatClampNeg) : Int32).toNatClampNeg) + (h_i h 202 x4.toNatClampNeg))) (kI K)) ∧ (¬ (h_i (h_im h 203 ((h_i h 201 x4.toNatClampNeg) : Int32).toNatClampNeg ((h_i h 203 ((h_i h 200 x4.toNatClampNeg) : Int32).toNatClampNeg) + (h_i h 202 x4.toNatClampNeg))) 203 ((h_i h 200 x4.toNatClampNeg) : Int32).toNatClampNeg) ≤ (((h_i h 203 ((h_i h 200 x4.toNatClampNeg) : Int32).toNatClampNeg) + (h_i h 202 x4.toNatClampNeg)) + (h_i h 202 x4.toNatClampNeg)) → vp_in (h_i h 201 x4.toNatClampNeg) 16 ∧ (vp_in x4 40 ∧ (vp_in (h_i h 200 x4.toNatClampNeg) 16 ∧ (AW (m_X12_walkOf (d + 0) 0 0) 0 0 43 [(0, .ref 1), (2, .int x2), (3, .int 1), (4, .int (x4 + 1))] [] (h_im (h_im h 203 ((h_i h 201 x4.toNatClampNeg) : Int32).toNatClampNeg ((h_i h 203 ((h_i h 200 x4.toNatClampNeg) : Int32).toNatClampNeg) + (h_i h 202 x4.toNatClampNeg))) 203 ((h_i h 200 x4.toNatClampNeg) : Int32).toNatClampNeg (((h_i h 203 ((h_i h 200 x4.toNatClampNeg) : Int32).toNatClampNeg) + (h_i h 202 x4.toNatClampNeg)) + (h_i h 202 x4.toNatClampNeg))) (kI K))))))))))))))))))) : AW (m_X12_walkOf (d + 0) 0 0) 0 0 43 [(0, .ref 1), (2, .int x2), (3, .int x3), (4, .int x4)] [] h (kI K) := by
  refine aw_iload d_X12_walkOf_43 3 rfl ?_
  refine aw_aload_n (i := 0) rfl d_X12_walkOf_45 0 rfl ?_
  refine aw_geti (k0 := 6) kc_12 (ws_1 w) (Nat.le_of_ble_eq_true rfl) tw_1748 d_X12_walkOf_46 rfl ?_
  refine aw_icmp_ge (tgt := 174) d_X12_walkOf_49 rfl (fun c9 => ?_) (fun c9 => ?_)
  · have k := k.1 c9
    refine aw_goto (tgt := 34) d_X12_walkOf_174 rfl ?_
    exact aw_lvp [0, 1, 2] [(0, .ref 1), (2, .int x2), (3, .int x3)] rfl k
  · have k := k.2 c9
    refine aw_aload_n (i := 0) rfl d_X12_walkOf_52 0 rfl ?_
    refine aw_getr (k0 := 2) kc_12 (ws_1 w) (Nat.le_of_ble_eq_true rfl) tw_1744 d_X12_walkOf_53 rfl (wr_1_2 w) ?_
    refine aw_iload d_X12_walkOf_56 3 rfl ?_
    obtain ⟨b10, k⟩ := k
    refine aw_iald (ws_200 w) b10 d_X12_walkOf_58 ?_
    refine aw_istore [(0, .ref 1), (2, .int x2), (3, .int x3), (4, .int x4), (5, .int (h_i h 200 x4.toNatClampNeg))] d_X12_walkOf_59 (Nat.le_of_ble_eq_true rfl) rfl rfl ?_
    refine aw_aload_n (i := 0) rfl d_X12_walkOf_61 0 rfl ?_
    refine aw_getr (k0 := 3) kc_12 (ws_1 w) (Nat.le_of_ble_eq_true rfl) tw_1745 d_X12_walkOf_62 rfl (wr_1_3 w) ?_
    refine aw_iload d_X12_walkOf_65 3 rfl ?_
    obtain ⟨b11, k⟩ := k
    refine aw_iald (ws_201 w) b11 d_X12_walkOf_67 ?_
    refine aw_istore [(0, .ref 1), (2, .int x2), (3, .int x3), (4, .int x4), (5, .int (h_i h 200 x4.toNatClampNeg)), (6, .int (h_i h 201 x4.toNatClampNeg))] d_X12_walkOf_68 (Nat.le_of_ble_eq_true rfl) rfl rfl ?_
    refine aw_aload_n (i := 0) rfl d_X12_walkOf_70 0 rfl ?_
    refine aw_getr (k0 := 5) kc_12 (ws_1 w) (Nat.le_of_ble_eq_true rfl) tw_1747 d_X12_walkOf_71 rfl (wr_1_5 w) ?_
    refine aw_iload d_X12_walkOf_74 4 rfl ?_
    obtain ⟨b12, k⟩ := k
    refine aw_iald (ws_203 w) b12 d_X12_walkOf_76 ?_
    refine aw_aload_n (i := 0) rfl d_X12_walkOf_77 0 rfl ?_
    refine aw_getr (k0 := 4) kc_12 (ws_1 w) (Nat.le_of_ble_eq_true rfl) tw_1746 d_X12_walkOf_78 rfl (wr_1_4 w) ?_
    refine aw_iload d_X12_walkOf_81 3 rfl ?_
    obtain ⟨b13, k⟩ := k
    refine aw_iald (ws_202 w) b13 d_X12_walkOf_83 ?_
    refine aw_iadd d_X12_walkOf_84 ?_
    refine aw_aload_n (i := 0) rfl d_X12_walkOf_85 0 rfl ?_
    refine aw_getr (k0 := 5) kc_12 (ws_1 w) (Nat.le_of_ble_eq_true rfl) tw_1747 d_X12_walkOf_86 rfl (wr_1_5 w) ?_
    refine aw_iload d_X12_walkOf_89 5 rfl ?_
    obtain ⟨b14, k⟩ := k
    refine aw_iald (ws_203 w) b14 d_X12_walkOf_91 ?_
    refine aw_icmp_ge (tgt := 119) d_X12_walkOf_92 rfl (fun c15 => ?_) (fun c15 => ?_)
    · have k := k.1 c15
      refine aw_aload_n (i := 0) rfl d_X12_walkOf_119 0 rfl ?_
      refine aw_getr (k0 := 5) kc_12 (ws_1 w) (Nat.le_of_ble_eq_true rfl) tw_1747 d_X12_walkOf_120 rfl (wr_1_5 w) ?_
      refine aw_iload d_X12_walkOf_123 5 rfl ?_
      obtain ⟨b16, k⟩ := k
      refine aw_iald (ws_203 w) b16 d_X12_walkOf_125 ?_
      refine aw_aload_n (i := 0) rfl d_X12_walkOf_126 0 rfl ?_
      refine aw_getr (k0 := 4) kc_12 (ws_1 w) (Nat.le_of_ble_eq_true rfl) tw_1746 d_X12_walkOf_127 rfl (wr_1_4 w) ?_
      refine aw_iload d_X12_walkOf_130 3 rfl ?_
      obtain ⟨b17, k⟩ := k
      refine aw_iald (ws_202 w) b17 d_X12_walkOf_132 ?_
      refine aw_iadd d_X12_walkOf_133 ?_
      refine aw_aload_n (i := 0) rfl d_X12_walkOf_134 0 rfl ?_
      refine aw_getr (k0 := 5) kc_12 (ws_1 w) (Nat.le_of_ble_eq_true rfl) tw_1747 d_X12_walkOf_135 rfl (wr_1_5 w) ?_
      refine aw_iload d_X12_walkOf_138 4 rfl ?_
      obtain ⟨b18, k⟩ := k
      refine aw_iald (ws_203 w) b18 d_X12_walkOf_140 ?_
      refine aw_icmp_ge (tgt := 168) d_X12_walkOf_141 rfl (fun c19 => ?_) (fun c19 => ?_)
      · have k := k.1 c19
        refine aw_iinc (v := (x4 + 1)) [(0, .ref 1), (2, .int x2), (3, .int x3), (4, .int (x4 + 1)), (5, .int (h_i h 200 x4.toNatClampNeg)), (6, .int (h_i h 201 x4.toNatClampNeg))] d_X12_walkOf_168 3 rfl rfl (Nat.le_of_ble_eq_true rfl) rfl rfl ?_
        refine aw_goto (tgt := 43) d_X12_walkOf_171 rfl ?_
        exact aw_lvp [0, 1, 2, 3] [(0, .ref 1), (2, .int x2), (3, .int x3), (4, .int (x4 + 1))] rfl k
      · have k := k.2 c19
        refine aw_aload_n (i := 0) rfl d_X12_walkOf_144 0 rfl ?_
        refine aw_getr (k0 := 5) kc_12 (ws_1 w) (Nat.le_of_ble_eq_true rfl) tw_1747 d_X12_walkOf_145 rfl (wr_1_5 w) ?_
        refine aw_iload d_X12_walkOf_148 4 rfl ?_
        refine aw_aload_n (i := 0) rfl d_X12_walkOf_150 0 rfl ?_
        refine aw_getr (k0 := 5) kc_12 (ws_1 w) (Nat.le_of_ble_eq_true rfl) tw_1747 d_X12_walkOf_151 rfl (wr_1_5 w) ?_
        refine aw_iload d_X12_walkOf_154 5 rfl ?_
        obtain ⟨b20, k⟩ := k
        refine aw_iald (ws_203 w) b20 d_X12_walkOf_156 ?_
        refine aw_aload_n (i := 0) rfl d_X12_walkOf_157 0 rfl ?_
        refine aw_getr (k0 := 4) kc_12 (ws_1 w) (Nat.le_of_ble_eq_true rfl) tw_1746 d_X12_walkOf_158 rfl (wr_1_4 w) ?_
        refine aw_iload d_X12_walkOf_161 3 rfl ?_
        obtain ⟨b21, k⟩ := k
        refine aw_iald (ws_202 w) b21 d_X12_walkOf_163 ?_
        refine aw_iadd d_X12_walkOf_164 ?_
        obtain ⟨b22, k⟩ := k
        refine aw_iast (ws_203 w) b22 d_X12_walkOf_165 ?_
        refine aw_iconst (v := 1) d_X12_walkOf_166 ic_1 ?_
        refine aw_istore_n (i := 3) rfl [(0, .ref 1), (2, .int x2), (3, .int 1), (4, .int x4), (5, .int (h_i h 200 x4.toNatClampNeg)), (6, .int (h_i h 201 x4.toNatClampNeg))] d_X12_walkOf_167 (Nat.le_of_ble_eq_true rfl) rfl rfl ?_
        refine aw_iinc (v := (x4 + 1)) [(0, .ref 1), (2, .int x2), (3, .int 1), (4, .int (x4 + 1)), (5, .int (h_i h 200 x4.toNatClampNeg)), (6, .int (h_i h 201 x4.toNatClampNeg))] d_X12_walkOf_168 3 rfl rfl (Nat.le_of_ble_eq_true rfl) rfl rfl ?_
        refine aw_goto (tgt := 43) d_X12_walkOf_171 rfl ?_
        exact aw_lvp [0, 1, 2, 3] [(0, .ref 1), (2, .int x2), (3, .int 1), (4, .int (x4 + 1))] rfl k
    · have k := k.2 c15
      refine aw_aload_n (i := 0) rfl d_X12_walkOf_95 0 rfl ?_
      refine aw_getr (k0 := 5) kc_12 (ws_1 w) (Nat.le_of_ble_eq_true rfl) tw_1747 d_X12_walkOf_96 rfl (wr_1_5 w) ?_
      refine aw_iload d_X12_walkOf_99 5 rfl ?_
      refine aw_aload_n (i := 0) rfl d_X12_walkOf_101 0 rfl ?_
      refine aw_getr (k0 := 5) kc_12 (ws_1 w) (Nat.le_of_ble_eq_true rfl) tw_1747 d_X12_walkOf_102 rfl (wr_1_5 w) ?_
      refine aw_iload d_X12_walkOf_105 4 rfl ?_
      obtain ⟨b23, k⟩ := k
      refine aw_iald (ws_203 w) b23 d_X12_walkOf_107 ?_
      refine aw_aload_n (i := 0) rfl d_X12_walkOf_108 0 rfl ?_
      refine aw_getr (k0 := 4) kc_12 (ws_1 w) (Nat.le_of_ble_eq_true rfl) tw_1746 d_X12_walkOf_109 rfl (wr_1_4 w) ?_
      refine aw_iload d_X12_walkOf_112 3 rfl ?_
      obtain ⟨b24, k⟩ := k
      refine aw_iald (ws_202 w) b24 d_X12_walkOf_114 ?_
      refine aw_iadd d_X12_walkOf_115 ?_
      obtain ⟨b25, k⟩ := k
      refine aw_iast (ws_203 w) b25 d_X12_walkOf_116 ?_
      refine aw_iconst (v := 1) d_X12_walkOf_117 ic_1 ?_
      refine aw_istore_n (i := 3) rfl [(0, .ref 1), (2, .int x2), (3, .int 1), (4, .int x4), (5, .int (h_i h 200 x4.toNatClampNeg)), (6, .int (h_i h 201 x4.toNatClampNeg))] d_X12_walkOf_118 (Nat.le_of_ble_eq_true rfl) rfl rfl ?_
      refine aw_aload_n (i := 0) rfl d_X12_walkOf_119 0 rfl ?_
      refine aw_getr (k0 := 5) kc_12 (ws_1 w) (Nat.le_of_ble_eq_true rfl) tw_1747 d_X12_walkOf_120 rfl (wr_1_5 w) ?_
      refine aw_iload d_X12_walkOf_123 5 rfl ?_
      obtain ⟨b26, k⟩ := k
      refine aw_iald (ws_203 w) b26 d_X12_walkOf_125 ?_
      refine aw_vi (v2 := ((h_i h 203 ((h_i h 200 x4.toNatClampNeg) : Int32).toNatClampNeg) + (h_i h 202 x4.toNatClampNeg))) (hi_s h 203 ((h_i h 201 x4.toNatClampNeg) : Int32).toNatClampNeg ((h_i h 203 ((h_i h 200 x4.toNatClampNeg) : Int32).toNatClampNeg) + (h_i h 202 x4.toNatClampNeg))) ?_
      refine aw_aload_n (i := 0) rfl d_X12_walkOf_126 0 rfl ?_
      refine aw_getr (k0 := 4) kc_12 (ws_1 w) (Nat.le_of_ble_eq_true rfl) tw_1746 d_X12_walkOf_127 rfl (wr_1_4 w) ?_
      refine aw_iload d_X12_walkOf_130 3 rfl ?_
      obtain ⟨b27, k⟩ := k
      refine aw_iald (ws_202 w) b27 d_X12_walkOf_132 ?_
      refine aw_vi (v2 := (h_i h 202 x4.toNatClampNeg)) (rfl) ?_
      refine aw_iadd d_X12_walkOf_133 ?_
      refine aw_aload_n (i := 0) rfl d_X12_walkOf_134 0 rfl ?_
      refine aw_getr (k0 := 5) kc_12 (ws_1 w) (Nat.le_of_ble_eq_true rfl) tw_1747 d_X12_walkOf_135 rfl (wr_1_5 w) ?_
      refine aw_iload d_X12_walkOf_138 4 rfl ?_
      obtain ⟨b28, k⟩ := k
      refine aw_iald (ws_203 w) b28 d_X12_walkOf_140 ?_
      refine aw_icmp_ge (tgt := 168) d_X12_walkOf_141 rfl (fun c29 => ?_) (fun c29 => ?_)
      · have k := k.1 c29
        refine aw_iinc (v := (x4 + 1)) [(0, .ref 1), (2, .int x2), (3, .int 1), (4, .int (x4 + 1)), (5, .int (h_i h 200 x4.toNatClampNeg)), (6, .int (h_i h 201 x4.toNatClampNeg))] d_X12_walkOf_168 3 rfl rfl (Nat.le_of_ble_eq_true rfl) rfl rfl ?_
        refine aw_goto (tgt := 43) d_X12_walkOf_171 rfl ?_
        exact aw_lvp [0, 1, 2, 3] [(0, .ref 1), (2, .int x2), (3, .int 1), (4, .int (x4 + 1))] rfl k
      · have k := k.2 c29
        refine aw_aload_n (i := 0) rfl d_X12_walkOf_144 0 rfl ?_
        refine aw_getr (k0 := 5) kc_12 (ws_1 w) (Nat.le_of_ble_eq_true rfl) tw_1747 d_X12_walkOf_145 rfl (wr_1_5 w) ?_
        refine aw_iload d_X12_walkOf_148 4 rfl ?_
        refine aw_aload_n (i := 0) rfl d_X12_walkOf_150 0 rfl ?_
        refine aw_getr (k0 := 5) kc_12 (ws_1 w) (Nat.le_of_ble_eq_true rfl) tw_1747 d_X12_walkOf_151 rfl (wr_1_5 w) ?_
        refine aw_iload d_X12_walkOf_154 5 rfl ?_
        obtain ⟨b30, k⟩ := k
        refine aw_iald (ws_203 w) b30 d_X12_walkOf_156 ?_
        refine aw_vi (v2 := ((h_i h 203 ((h_i h 200 x4.toNatClampNeg) : Int32).toNatClampNeg) + (h_i h 202 x4.toNatClampNeg))) (hi_s h 203 ((h_i h 201 x4.toNatClampNeg) : Int32).toNatClampNeg ((h_i h 203 ((h_i h 200 x4.toNatClampNeg) : Int32).toNatClampNeg) + (h_i h 202 x4.toNatClampNeg))) ?_
        refine aw_aload_n (i := 0) rfl d_X12_walkOf_157 0 rfl ?_
        refine aw_getr (k0 := 4) kc_12 (ws_1 w) (Nat.le_of_ble_eq_true rfl) tw_1746 d_X12_walkOf_158 rfl (wr_1_4 w) ?_
        refine aw_iload d_X12_walkOf_161 3 rfl ?_
        obtain ⟨b31, k⟩ := k
        refine aw_iald (ws_202 w) b31 d_X12_walkOf_163 ?_
        refine aw_vi (v2 := (h_i h 202 x4.toNatClampNeg)) (rfl) ?_
        refine aw_iadd d_X12_walkOf_164 ?_
        obtain ⟨b32, k⟩ := k
        refine aw_iast (ws_203 w) b32 d_X12_walkOf_165 ?_
        refine aw_iconst (v := 1) d_X12_walkOf_166 ic_1 ?_
        refine aw_istore_n (i := 3) rfl [(0, .ref 1), (2, .int x2), (3, .int 1), (4, .int x4), (5, .int (h_i h 200 x4.toNatClampNeg)), (6, .int (h_i h 201 x4.toNatClampNeg))] d_X12_walkOf_167 (Nat.le_of_ble_eq_true rfl) rfl rfl ?_
        refine aw_iinc (v := (x4 + 1)) [(0, .ref 1), (2, .int x2), (3, .int 1), (4, .int (x4 + 1)), (5, .int (h_i h 200 x4.toNatClampNeg)), (6, .int (h_i h 201 x4.toNatClampNeg))] d_X12_walkOf_168 3 rfl rfl (Nat.le_of_ble_eq_true rfl) rfl rfl ?_
        refine aw_goto (tgt := 43) d_X12_walkOf_171 rfl ?_
        exact aw_lvp [0, 1, 2, 3] [(0, .ref 1), (2, .int x2), (3, .int 1), (4, .int (x4 + 1))] rfl k
theorem t_X12_rankOn (d : Nat) (h : Hp_) (w : Wf h) (x1 : Int32) (x2 : Int32) (x3 : Int32) (K : Int32 → Hp_ → Prop) (k : vp_in x1 12 ∧ (AW (m_X12_rankOn (d + 0) 0 0) 0 0 14 [(0, .ref 1), (1, .int x1), (2, .int x2), (3, .int x3), (4, .int (h_i h 204 x1.toNatClampNeg)), (5, .int (-1)), (6, .int 0)] [] h (kI K))) : Ci (m_X12_rankOn (d + 0) 0 0) [.ref 1, .int x1, .int x2, .int x3] h K := by
  refine Ct.of (fun _ _ _ => trivial) rfl (Nat.le_of_ble_eq_true rfl) ?_
  show AW (m_X12_rankOn (d + 0) 0 0) 0 0 0 [(0, .ref 1), (1, .int x1), (2, .int x2), (3, .int x3)] [] h (kI K)
  refine aw_aload_n (i := 0) rfl d_X12_rankOn_0 0 rfl ?_
  refine aw_getr (k0 := 8) kc_12 (ws_1 w) (Nat.le_of_ble_eq_true rfl) tw_1750 d_X12_rankOn_1 rfl (wr_1_8 w) ?_
  refine aw_iload_n (i := 1) rfl d_X12_rankOn_4 1 rfl ?_
  obtain ⟨b1, k⟩ := k
  refine aw_iald (ws_204 w) b1 d_X12_rankOn_5 ?_
  refine aw_istore [(0, .ref 1), (1, .int x1), (2, .int x2), (3, .int x3), (4, .int (h_i h 204 x1.toNatClampNeg))] d_X12_rankOn_6 (Nat.le_of_ble_eq_true rfl) rfl rfl ?_
  refine aw_iconst (v := (-1)) d_X12_rankOn_8 ic_m1 ?_
  refine aw_istore [(0, .ref 1), (1, .int x1), (2, .int x2), (3, .int x3), (4, .int (h_i h 204 x1.toNatClampNeg)), (5, .int (-1))] d_X12_rankOn_9 (Nat.le_of_ble_eq_true rfl) rfl rfl ?_
  refine aw_iconst (v := 0) d_X12_rankOn_11 ic_0 ?_
  refine aw_istore [(0, .ref 1), (1, .int x1), (2, .int x2), (3, .int x3), (4, .int (h_i h 204 x1.toNatClampNeg)), (5, .int (-1)), (6, .int 0)] d_X12_rankOn_12 (Nat.le_of_ble_eq_true rfl) rfl rfl ?_
  exact k
theorem t_X12_rankOn_14 (d : Nat) (h : Hp_) (w : Wf h) (x1 : Int32) (x2 : Int32) (x3 : Int32) (x4 : Int32) (x5 : Int32) (x6 : Int32) (K : Int32 → Hp_ → Prop) (k : ((h_i h 1 29) ≤ x6 → K x4 h) ∧ (¬ (h_i h 1 29) ≤ x6 → vp_in x6 40 ∧ ((¬ (h_i h 221 x6.toNatClampNeg) = x1 → AW (m_X12_rankOn (d + 0) 0 0) 0 0 14 [(0, .ref 1), (1, .int x1), (2, .int x2), (3, .int x3), (4, .int x4), (5, .int x5), (6, .int (x6 + 1))] [] h (kI K)) ∧ ((h_i h 221 x6.toNatClampNeg) = x1 → vp_in x6 40 ∧ ((x3 < (h_i h 224 x6.toNatClampNeg) → AW (m_X12_rankOn (d + 0) 0 0) 0 0 14 [(0, .ref 1), (1, .int x1), (2, .int x2), (3, .int x3), (4, .int x4), (5, .int x5), (6, .int (x6 + 1))] [] h (kI K)) ∧ (¬ x3 < (h_i h 224 x6.toNatClampNeg) → vp_in x6 40 ∧ ((x2 < (h_i h 223 x6.toNatClampNeg) → AW (m_X12_rankOn (d + 0) 0 0) 0 0 14 [(0, .ref 1), (1, .int x1), (2, .int x2), (3, .int x3), (4, .int x4), (5, .int x5), (6, .int (x6 + 1))] [] h (kI K)) ∧ (¬ x2 < (h_i h 223 x6.toNatClampNeg) → vp_in x6 40 ∧ (((h_i h 223 x6.toNatClampNeg) < x5 → AW (m_X12_rankOn (d + 0) 0 0) 0 0 14 [(0, .ref 1), (1, .int x1), (2, .int x2), (3, .int x3), (4, .int x4), (5, .int x5), (6, .int (x6 + 1))] [] h (kI K)) ∧ (¬ (h_i h 223 x6.toNatClampNeg) < x5 → vp_in x6 40 ∧ (vp_in x6 40 ∧ (AW (m_X12_rankOn (d + 0) 0 0) 0 0 14 [(0, .ref 1), (1, .int x1), (2, .int x2), (3, .int x3), (4, .int (h_i h 222 x6.toNatClampNeg)), (5, .int (h_i h 223 x6.toNatClampNeg)), (6, .int (x6 + 1))] [] h (kI K))))))))))))) : AW (m_X12_rankOn (d + 0) 0 0) 0 0 14 [(0, .ref 1), (1, .int x1), (2, .int x2), (3, .int x3), (4, .int x4), (5, .int x5), (6, .int x6)] [] h (kI K) := by
  refine aw_iload d_X12_rankOn_14 6 rfl ?_
  refine aw_aload_n (i := 0) rfl d_X12_rankOn_16 0 rfl ?_
  refine aw_geti (k0 := 29) kc_12 (ws_1 w) (Nat.le_of_ble_eq_true rfl) tw_1771 d_X12_rankOn_17 rfl ?_
  refine aw_icmp_ge (tgt := 92) d_X12_rankOn_20 rfl (fun c2 => ?_) (fun c2 => ?_)
  · have k := k.1 c2
    refine aw_iload d_X12_rankOn_92 4 rfl ?_
    exact aw_iret rfl d_X12_rankOn_94 ⟨Nat.le_refl _, Nat.le_refl _⟩ ⟨_, rfl, k⟩
  · have k := k.2 c2
    refine aw_aload_n (i := 0) rfl d_X12_rankOn_23 0 rfl ?_
    refine aw_getr (k0 := 25) kc_12 (ws_1 w) (Nat.le_of_ble_eq_true rfl) tw_1767 d_X12_rankOn_24 rfl (wr_1_25 w) ?_
    refine aw_iload d_X12_rankOn_27 6 rfl ?_
    obtain ⟨b3, k⟩ := k
    refine aw_iald (ws_221 w) b3 d_X12_rankOn_29 ?_
    refine aw_iload_n (i := 1) rfl d_X12_rankOn_30 1 rfl ?_
    refine aw_icmp_ne (tgt := 86) d_X12_rankOn_31 rfl (fun c4 => ?_) (fun c4 => ?_)
    · have k := k.1 c4
      refine aw_iinc (v := (x6 + 1)) [(0, .ref 1), (1, .int x1), (2, .int x2), (3, .int x3), (4, .int x4), (5, .int x5), (6, .int (x6 + 1))] d_X12_rankOn_86 6 rfl rfl (Nat.le_of_ble_eq_true rfl) rfl rfl ?_
      refine aw_goto (tgt := 14) d_X12_rankOn_89 rfl ?_
      exact k
    · have k := k.2 c4
      refine aw_aload_n (i := 0) rfl d_X12_rankOn_34 0 rfl ?_
      refine aw_getr (k0 := 28) kc_12 (ws_1 w) (Nat.le_of_ble_eq_true rfl) tw_1770 d_X12_rankOn_35 rfl (wr_1_28 w) ?_
      refine aw_iload d_X12_rankOn_38 6 rfl ?_
      obtain ⟨b5, k⟩ := k
      refine aw_iald (ws_224 w) b5 d_X12_rankOn_40 ?_
      refine aw_iload_n (i := 3) rfl d_X12_rankOn_41 3 rfl ?_
      refine aw_icmp_gt (tgt := 86) d_X12_rankOn_42 rfl (fun c6 => ?_) (fun c6 => ?_)
      · have k := k.1 c6
        refine aw_iinc (v := (x6 + 1)) [(0, .ref 1), (1, .int x1), (2, .int x2), (3, .int x3), (4, .int x4), (5, .int x5), (6, .int (x6 + 1))] d_X12_rankOn_86 6 rfl rfl (Nat.le_of_ble_eq_true rfl) rfl rfl ?_
        refine aw_goto (tgt := 14) d_X12_rankOn_89 rfl ?_
        exact k
      · have k := k.2 c6
        refine aw_aload_n (i := 0) rfl d_X12_rankOn_45 0 rfl ?_
        refine aw_getr (k0 := 27) kc_12 (ws_1 w) (Nat.le_of_ble_eq_true rfl) tw_1769 d_X12_rankOn_46 rfl (wr_1_27 w) ?_
        refine aw_iload d_X12_rankOn_49 6 rfl ?_
        obtain ⟨b7, k⟩ := k
        refine aw_iald (ws_223 w) b7 d_X12_rankOn_51 ?_
        refine aw_iload_n (i := 2) rfl d_X12_rankOn_52 2 rfl ?_
        refine aw_icmp_gt (tgt := 86) d_X12_rankOn_53 rfl (fun c8 => ?_) (fun c8 => ?_)
        · have k := k.1 c8
          refine aw_iinc (v := (x6 + 1)) [(0, .ref 1), (1, .int x1), (2, .int x2), (3, .int x3), (4, .int x4), (5, .int x5), (6, .int (x6 + 1))] d_X12_rankOn_86 6 rfl rfl (Nat.le_of_ble_eq_true rfl) rfl rfl ?_
          refine aw_goto (tgt := 14) d_X12_rankOn_89 rfl ?_
          exact k
        · have k := k.2 c8
          refine aw_aload_n (i := 0) rfl d_X12_rankOn_56 0 rfl ?_
          refine aw_getr (k0 := 27) kc_12 (ws_1 w) (Nat.le_of_ble_eq_true rfl) tw_1769 d_X12_rankOn_57 rfl (wr_1_27 w) ?_
          refine aw_iload d_X12_rankOn_60 6 rfl ?_
          obtain ⟨b9, k⟩ := k
          refine aw_iald (ws_223 w) b9 d_X12_rankOn_62 ?_
          refine aw_iload d_X12_rankOn_63 5 rfl ?_
          refine aw_icmp_lt (tgt := 86) d_X12_rankOn_65 rfl (fun c10 => ?_) (fun c10 => ?_)
          · have k := k.1 c10
            refine aw_iinc (v := (x6 + 1)) [(0, .ref 1), (1, .int x1), (2, .int x2), (3, .int x3), (4, .int x4), (5, .int x5), (6, .int (x6 + 1))] d_X12_rankOn_86 6 rfl rfl (Nat.le_of_ble_eq_true rfl) rfl rfl ?_
            refine aw_goto (tgt := 14) d_X12_rankOn_89 rfl ?_
            exact k
          · have k := k.2 c10
            refine aw_aload_n (i := 0) rfl d_X12_rankOn_68 0 rfl ?_
            refine aw_getr (k0 := 26) kc_12 (ws_1 w) (Nat.le_of_ble_eq_true rfl) tw_1768 d_X12_rankOn_69 rfl (wr_1_26 w) ?_
            refine aw_iload d_X12_rankOn_72 6 rfl ?_
            obtain ⟨b11, k⟩ := k
            refine aw_iald (ws_222 w) b11 d_X12_rankOn_74 ?_
            refine aw_istore [(0, .ref 1), (1, .int x1), (2, .int x2), (3, .int x3), (4, .int (h_i h 222 x6.toNatClampNeg)), (5, .int x5), (6, .int x6)] d_X12_rankOn_75 (Nat.le_of_ble_eq_true rfl) rfl rfl ?_
            refine aw_aload_n (i := 0) rfl d_X12_rankOn_77 0 rfl ?_
            refine aw_getr (k0 := 27) kc_12 (ws_1 w) (Nat.le_of_ble_eq_true rfl) tw_1769 d_X12_rankOn_78 rfl (wr_1_27 w) ?_
            refine aw_iload d_X12_rankOn_81 6 rfl ?_
            obtain ⟨b12, k⟩ := k
            refine aw_iald (ws_223 w) b12 d_X12_rankOn_83 ?_
            refine aw_istore [(0, .ref 1), (1, .int x1), (2, .int x2), (3, .int x3), (4, .int (h_i h 222 x6.toNatClampNeg)), (5, .int (h_i h 223 x6.toNatClampNeg)), (6, .int x6)] d_X12_rankOn_84 (Nat.le_of_ble_eq_true rfl) rfl rfl ?_
            refine aw_iinc (v := (x6 + 1)) [(0, .ref 1), (1, .int x1), (2, .int x2), (3, .int x3), (4, .int (h_i h 222 x6.toNatClampNeg)), (5, .int (h_i h 223 x6.toNatClampNeg)), (6, .int (x6 + 1))] d_X12_rankOn_86 6 rfl rfl (Nat.le_of_ble_eq_true rfl) rfl rfl ?_
            refine aw_goto (tgt := 14) d_X12_rankOn_89 rfl ?_
            exact k
theorem t_X12_byteOf (d : Nat) (h : Hp_) (x0 : Int32) (x1 : Int32) (x2 : Int32) (x3 : Int32) (x4 : Int32) (x5 : Int32) (K : Int32 → Hp_ → Prop) (k : (4 ≤ x5 → (8 ≤ x5 → (12 ≤ x5 → (16 ≤ x5 → K ((x4 >>> ((24 - (8 * (x5 - x5 / 4 * 4))) &&& 31)) &&& 255) h) ∧ (¬ 16 ≤ x5 → K ((x3 >>> ((24 - (8 * (x5 - x5 / 4 * 4))) &&& 31)) &&& 255) h)) ∧ (¬ 12 ≤ x5 → K ((x2 >>> ((24 - (8 * (x5 - x5 / 4 * 4))) &&& 31)) &&& 255) h)) ∧ (¬ 8 ≤ x5 → K ((x1 >>> ((24 - (8 * (x5 - x5 / 4 * 4))) &&& 31)) &&& 255) h)) ∧ (¬ 4 ≤ x5 → K ((x0 >>> ((24 - (8 * (x5 - x5 / 4 * 4))) &&& 31)) &&& 255) h)) : Ci (m_X12_byteOf (d + 0) 0 0) [.int x0, .int x1, .int x2, .int x3, .int x4, .int x5] h K := by
  refine Ct.of (fun _ _ _ => trivial) rfl (Nat.le_of_ble_eq_true rfl) ?_
  show AW (m_X12_byteOf (d + 0) 0 0) 0 0 0 [(0, .int x0), (1, .int x1), (2, .int x2), (3, .int x3), (4, .int x4), (5, .int x5)] [] h (kI K)
  refine aw_iload d_X12_byteOf_0 5 rfl ?_
  refine aw_iconst (v := 4) d_X12_byteOf_2 ic_4 ?_
  refine aw_icmp_ge (tgt := 10) d_X12_byteOf_3 rfl (fun c1 => ?_) (fun c1 => ?_)
  · have k := k.1 c1
    refine aw_iload d_X12_byteOf_10 5 rfl ?_
    refine aw_bipush (v := 8) d_X12_byteOf_12 ib_8 ?_
    refine aw_icmp_ge (tgt := 21) d_X12_byteOf_14 rfl (fun c2 => ?_) (fun c2 => ?_)
    · have k := k.1 c2
      refine aw_iload d_X12_byteOf_21 5 rfl ?_
      refine aw_bipush (v := 12) d_X12_byteOf_23 ib_12 ?_
      refine aw_icmp_ge (tgt := 32) d_X12_byteOf_25 rfl (fun c3 => ?_) (fun c3 => ?_)
      · have k := k.1 c3
        refine aw_iload d_X12_byteOf_32 5 rfl ?_
        refine aw_bipush (v := 16) d_X12_byteOf_34 ib_16 ?_
        refine aw_icmp_ge (tgt := 43) d_X12_byteOf_36 rfl (fun c4 => ?_) (fun c4 => ?_)
        · have k := k.1 c4
          refine aw_iload d_X12_byteOf_43 4 rfl ?_
          refine aw_istore [(0, .int x0), (1, .int x1), (2, .int x2), (3, .int x3), (4, .int x4), (5, .int x5), (6, .int x4)] d_X12_byteOf_45 (Nat.le_of_ble_eq_true rfl) rfl rfl ?_
          refine aw_iload d_X12_byteOf_47 6 rfl ?_
          refine aw_bipush (v := 24) d_X12_byteOf_49 ib_24 ?_
          refine aw_bipush (v := 8) d_X12_byteOf_51 ib_8 ?_
          refine aw_iload d_X12_byteOf_53 5 rfl ?_
          refine aw_iconst (v := 4) d_X12_byteOf_55 ic_4 ?_
          refine aw_irem d_X12_byteOf_56 (by decide) ?_
          refine aw_imul d_X12_byteOf_57 ?_
          refine aw_isub d_X12_byteOf_58 ?_
          refine aw_ishr d_X12_byteOf_59 ?_
          refine aw_sipush (v := 255) d_X12_byteOf_60 is_255 ?_
          refine aw_iand d_X12_byteOf_63 ?_
          exact aw_iret rfl d_X12_byteOf_64 ⟨Nat.le_refl _, Nat.le_refl _⟩ ⟨_, rfl, k⟩
        · have k := k.2 c4
          refine aw_iload_n (i := 3) rfl d_X12_byteOf_39 3 rfl ?_
          refine aw_goto (tgt := 45) d_X12_byteOf_40 rfl ?_
          refine aw_istore [(0, .int x0), (1, .int x1), (2, .int x2), (3, .int x3), (4, .int x4), (5, .int x5), (6, .int x3)] d_X12_byteOf_45 (Nat.le_of_ble_eq_true rfl) rfl rfl ?_
          refine aw_iload d_X12_byteOf_47 6 rfl ?_
          refine aw_bipush (v := 24) d_X12_byteOf_49 ib_24 ?_
          refine aw_bipush (v := 8) d_X12_byteOf_51 ib_8 ?_
          refine aw_iload d_X12_byteOf_53 5 rfl ?_
          refine aw_iconst (v := 4) d_X12_byteOf_55 ic_4 ?_
          refine aw_irem d_X12_byteOf_56 (by decide) ?_
          refine aw_imul d_X12_byteOf_57 ?_
          refine aw_isub d_X12_byteOf_58 ?_
          refine aw_ishr d_X12_byteOf_59 ?_
          refine aw_sipush (v := 255) d_X12_byteOf_60 is_255 ?_
          refine aw_iand d_X12_byteOf_63 ?_
          exact aw_iret rfl d_X12_byteOf_64 ⟨Nat.le_refl _, Nat.le_refl _⟩ ⟨_, rfl, k⟩
      · have k := k.2 c3
        refine aw_iload_n (i := 2) rfl d_X12_byteOf_28 2 rfl ?_
        refine aw_goto (tgt := 45) d_X12_byteOf_29 rfl ?_
        refine aw_istore [(0, .int x0), (1, .int x1), (2, .int x2), (3, .int x3), (4, .int x4), (5, .int x5), (6, .int x2)] d_X12_byteOf_45 (Nat.le_of_ble_eq_true rfl) rfl rfl ?_
        refine aw_iload d_X12_byteOf_47 6 rfl ?_
        refine aw_bipush (v := 24) d_X12_byteOf_49 ib_24 ?_
        refine aw_bipush (v := 8) d_X12_byteOf_51 ib_8 ?_
        refine aw_iload d_X12_byteOf_53 5 rfl ?_
        refine aw_iconst (v := 4) d_X12_byteOf_55 ic_4 ?_
        refine aw_irem d_X12_byteOf_56 (by decide) ?_
        refine aw_imul d_X12_byteOf_57 ?_
        refine aw_isub d_X12_byteOf_58 ?_
        refine aw_ishr d_X12_byteOf_59 ?_
        refine aw_sipush (v := 255) d_X12_byteOf_60 is_255 ?_
        refine aw_iand d_X12_byteOf_63 ?_
        exact aw_iret rfl d_X12_byteOf_64 ⟨Nat.le_refl _, Nat.le_refl _⟩ ⟨_, rfl, k⟩
    · have k := k.2 c2
      refine aw_iload_n (i := 1) rfl d_X12_byteOf_17 1 rfl ?_
      refine aw_goto (tgt := 45) d_X12_byteOf_18 rfl ?_
      refine aw_istore [(0, .int x0), (1, .int x1), (2, .int x2), (3, .int x3), (4, .int x4), (5, .int x5), (6, .int x1)] d_X12_byteOf_45 (Nat.le_of_ble_eq_true rfl) rfl rfl ?_
      refine aw_iload d_X12_byteOf_47 6 rfl ?_
      refine aw_bipush (v := 24) d_X12_byteOf_49 ib_24 ?_
      refine aw_bipush (v := 8) d_X12_byteOf_51 ib_8 ?_
      refine aw_iload d_X12_byteOf_53 5 rfl ?_
      refine aw_iconst (v := 4) d_X12_byteOf_55 ic_4 ?_
      refine aw_irem d_X12_byteOf_56 (by decide) ?_
      refine aw_imul d_X12_byteOf_57 ?_
      refine aw_isub d_X12_byteOf_58 ?_
      refine aw_ishr d_X12_byteOf_59 ?_
      refine aw_sipush (v := 255) d_X12_byteOf_60 is_255 ?_
      refine aw_iand d_X12_byteOf_63 ?_
      exact aw_iret rfl d_X12_byteOf_64 ⟨Nat.le_refl _, Nat.le_refl _⟩ ⟨_, rfl, k⟩
  · have k := k.2 c1
    refine aw_iload_n (i := 0) rfl d_X12_byteOf_6 0 rfl ?_
    refine aw_goto (tgt := 45) d_X12_byteOf_7 rfl ?_
    refine aw_istore [(0, .int x0), (1, .int x1), (2, .int x2), (3, .int x3), (4, .int x4), (5, .int x5), (6, .int x0)] d_X12_byteOf_45 (Nat.le_of_ble_eq_true rfl) rfl rfl ?_
    refine aw_iload d_X12_byteOf_47 6 rfl ?_
    refine aw_bipush (v := 24) d_X12_byteOf_49 ib_24 ?_
    refine aw_bipush (v := 8) d_X12_byteOf_51 ib_8 ?_
    refine aw_iload d_X12_byteOf_53 5 rfl ?_
    refine aw_iconst (v := 4) d_X12_byteOf_55 ic_4 ?_
    refine aw_irem d_X12_byteOf_56 (by decide) ?_
    refine aw_imul d_X12_byteOf_57 ?_
    refine aw_isub d_X12_byteOf_58 ?_
    refine aw_ishr d_X12_byteOf_59 ?_
    refine aw_sipush (v := 255) d_X12_byteOf_60 is_255 ?_
    refine aw_iand d_X12_byteOf_63 ?_
    exact aw_iret rfl d_X12_byteOf_64 ⟨Nat.le_refl _, Nat.le_refl _⟩ ⟨_, rfl, k⟩
theorem t_X12_end (d : Nat) (h : Hp_) (w : Wf h) (x1 : Int32) (K : Int32 → Hp_ → Prop) (k : (x1 < 0 → K 0 h) ∧ (¬ x1 < 0 → (x1 ≤ (h_i h 1 32) → K 1 (h_im h 1 32 x1)) ∧ (¬ x1 ≤ (h_i h 1 32) → K 0 h))) : Ci (m_X12_end (d + 0) 0 0) [.ref 1, .int x1] h K := by
  refine Ct.of (fun _ _ _ => trivial) rfl (Nat.le_of_ble_eq_true rfl) ?_
  show AW (m_X12_end (d + 0) 0 0) 0 0 0 [(0, .ref 1), (1, .int x1)] [] h (kI K)
  refine aw_iload_n (i := 1) rfl d_X12_end_0 1 rfl ?_
  refine aw_if_lt (tgt := 12) d_X12_end_1 rfl (fun c1 => ?_) (fun c1 => ?_)
  · have k := k.1 c1
    refine aw_iconst (v := 0) d_X12_end_12 ic_0 ?_
    exact aw_zret rfl rfl d_X12_end_13 ⟨Nat.le_refl _, Nat.le_refl _⟩ ⟨_, rfl, k⟩
  · have k := k.2 c1
    refine aw_iload_n (i := 1) rfl d_X12_end_4 1 rfl ?_
    refine aw_aload_n (i := 0) rfl d_X12_end_5 0 rfl ?_
    refine aw_geti (k0 := 32) kc_12 (ws_1 w) (Nat.le_of_ble_eq_true rfl) tw_1774 d_X12_end_6 rfl ?_
    refine aw_icmp_le (tgt := 14) d_X12_end_9 rfl (fun c2 => ?_) (fun c2 => ?_)
    · have k := k.1 c2
      refine aw_aload_n (i := 0) rfl d_X12_end_14 0 rfl ?_
      refine aw_iload_n (i := 1) rfl d_X12_end_15 1 rfl ?_
      refine aw_puti (k0 := 32) kc_12 (ws_1 w) (Nat.le_of_ble_eq_true rfl) tw_1774 d_X12_end_16 rfl rfl nf_i ?_
      refine aw_iconst (v := 1) d_X12_end_19 ic_1 ?_
      exact aw_zret rfl rfl d_X12_end_20 ⟨Nat.le_refl _, Nat.le_refl _⟩ ⟨_, rfl, k⟩
    · have k := k.2 c2
      refine aw_iconst (v := 0) d_X12_end_12 ic_0 ?_
      exact aw_zret rfl rfl d_X12_end_13 ⟨Nat.le_refl _, Nat.le_refl _⟩ ⟨_, rfl, k⟩
theorem t_X12_look (d : Nat) (h : Hp_) (w : Wf h)  (K : Int32 → Hp_ → Prop) (k : ((h_i h 1 32) ≤ (h_i h 1 33) → ((h_i h 1 32) ≤ (h_i h 1 33) → K (-1) h) ∧ (¬ (h_i h 1 32) ≤ (h_i h 1 33) → vp_in (h_i h 1 33) 160 ∧ (K (h_i h 225 ((h_i h 1 33) : Int32).toNatClampNeg) h))) ∧ (¬ (h_i h 1 32) ≤ (h_i h 1 33) → vp_in (h_i h 1 33) 160 ∧ ((¬ (h_i h 225 ((h_i h 1 33) : Int32).toNatClampNeg) = 32 → ((h_i h 1 32) ≤ (h_i h 1 33) → K (-1) h) ∧ (¬ (h_i h 1 32) ≤ (h_i h 1 33) → vp_in (h_i h 1 33) 160 ∧ (K (h_i h 225 ((h_i h 1 33) : Int32).toNatClampNeg) h))) ∧ ((h_i h 225 ((h_i h 1 33) : Int32).toNatClampNeg) = 32 → AW (m_X12_look (d + 0) 0 0) 0 0 0 [(0, .ref 1)] [] (h_im h 1 33 ((h_i h 1 33) + 1)) (kI K))))) : Ci (m_X12_look (d + 0) 0 0) [.ref 1] h K := by
  refine Ct.of (fun _ _ _ => trivial) rfl (Nat.le_of_ble_eq_true rfl) ?_
  show AW (m_X12_look (d + 0) 0 0) 0 0 0 [(0, .ref 1)] [] h (kI K)
  refine aw_aload_n (i := 0) rfl d_X12_look_0 0 rfl ?_
  refine aw_geti (k0 := 33) kc_12 (ws_1 w) (Nat.le_of_ble_eq_true rfl) tw_1775 d_X12_look_1 rfl ?_
  refine aw_aload_n (i := 0) rfl d_X12_look_4 0 rfl ?_
  refine aw_geti (k0 := 32) kc_12 (ws_1 w) (Nat.le_of_ble_eq_true rfl) tw_1774 d_X12_look_5 rfl ?_
  refine aw_icmp_ge (tgt := 38) d_X12_look_8 rfl (fun c1 => ?_) (fun c1 => ?_)
  · have k := k.1 c1
    refine aw_aload_n (i := 0) rfl d_X12_look_38 0 rfl ?_
    refine aw_geti (k0 := 33) kc_12 (ws_1 w) (Nat.le_of_ble_eq_true rfl) tw_1775 d_X12_look_39 rfl ?_
    refine aw_aload_n (i := 0) rfl d_X12_look_42 0 rfl ?_
    refine aw_geti (k0 := 32) kc_12 (ws_1 w) (Nat.le_of_ble_eq_true rfl) tw_1774 d_X12_look_43 rfl ?_
    refine aw_icmp_ge (tgt := 61) d_X12_look_46 rfl (fun c2 => ?_) (fun c2 => ?_)
    · have k := k.1 c2
      refine aw_iconst (v := (-1)) d_X12_look_61 ic_m1 ?_
      exact aw_iret rfl d_X12_look_62 ⟨Nat.le_refl _, Nat.le_refl _⟩ ⟨_, rfl, k⟩
    · have k := k.2 c2
      refine aw_aload_n (i := 0) rfl d_X12_look_49 0 rfl ?_
      refine aw_getr (k0 := 30) kc_12 (ws_1 w) (Nat.le_of_ble_eq_true rfl) tw_1772 d_X12_look_50 rfl (wr_1_30 w) ?_
      refine aw_aload_n (i := 0) rfl d_X12_look_53 0 rfl ?_
      refine aw_geti (k0 := 33) kc_12 (ws_1 w) (Nat.le_of_ble_eq_true rfl) tw_1775 d_X12_look_54 rfl ?_
      obtain ⟨b3, k⟩ := k
      refine aw_iald (ws_225 w) b3 d_X12_look_57 ?_
      refine aw_goto (tgt := 62) d_X12_look_58 rfl ?_
      exact aw_iret rfl d_X12_look_62 ⟨Nat.le_refl _, Nat.le_refl _⟩ ⟨_, rfl, k⟩
  · have k := k.2 c1
    refine aw_aload_n (i := 0) rfl d_X12_look_11 0 rfl ?_
    refine aw_getr (k0 := 30) kc_12 (ws_1 w) (Nat.le_of_ble_eq_true rfl) tw_1772 d_X12_look_12 rfl (wr_1_30 w) ?_
    refine aw_aload_n (i := 0) rfl d_X12_look_15 0 rfl ?_
    refine aw_geti (k0 := 33) kc_12 (ws_1 w) (Nat.le_of_ble_eq_true rfl) tw_1775 d_X12_look_16 rfl ?_
    obtain ⟨b4, k⟩ := k
    refine aw_iald (ws_225 w) b4 d_X12_look_19 ?_
    refine aw_bipush (v := 32) d_X12_look_20 ib_32 ?_
    refine aw_icmp_ne (tgt := 38) d_X12_look_22 rfl (fun c5 => ?_) (fun c5 => ?_)
    · have k := k.1 c5
      refine aw_aload_n (i := 0) rfl d_X12_look_38 0 rfl ?_
      refine aw_geti (k0 := 33) kc_12 (ws_1 w) (Nat.le_of_ble_eq_true rfl) tw_1775 d_X12_look_39 rfl ?_
      refine aw_aload_n (i := 0) rfl d_X12_look_42 0 rfl ?_
      refine aw_geti (k0 := 32) kc_12 (ws_1 w) (Nat.le_of_ble_eq_true rfl) tw_1774 d_X12_look_43 rfl ?_
      refine aw_icmp_ge (tgt := 61) d_X12_look_46 rfl (fun c6 => ?_) (fun c6 => ?_)
      · have k := k.1 c6
        refine aw_iconst (v := (-1)) d_X12_look_61 ic_m1 ?_
        exact aw_iret rfl d_X12_look_62 ⟨Nat.le_refl _, Nat.le_refl _⟩ ⟨_, rfl, k⟩
      · have k := k.2 c6
        refine aw_aload_n (i := 0) rfl d_X12_look_49 0 rfl ?_
        refine aw_getr (k0 := 30) kc_12 (ws_1 w) (Nat.le_of_ble_eq_true rfl) tw_1772 d_X12_look_50 rfl (wr_1_30 w) ?_
        refine aw_aload_n (i := 0) rfl d_X12_look_53 0 rfl ?_
        refine aw_geti (k0 := 33) kc_12 (ws_1 w) (Nat.le_of_ble_eq_true rfl) tw_1775 d_X12_look_54 rfl ?_
        obtain ⟨b7, k⟩ := k
        refine aw_iald (ws_225 w) b7 d_X12_look_57 ?_
        refine aw_goto (tgt := 62) d_X12_look_58 rfl ?_
        exact aw_iret rfl d_X12_look_62 ⟨Nat.le_refl _, Nat.le_refl _⟩ ⟨_, rfl, k⟩
    · have k := k.2 c5
      refine aw_aload_n (i := 0) rfl d_X12_look_25 0 rfl ?_
      refine aw_dup d_X12_look_26 rfl ?_
      refine aw_geti (k0 := 33) kc_12 (ws_1 w) (Nat.le_of_ble_eq_true rfl) tw_1775 d_X12_look_27 rfl ?_
      refine aw_iconst (v := 1) d_X12_look_30 ic_1 ?_
      refine aw_iadd d_X12_look_31 ?_
      refine aw_puti (k0 := 33) kc_12 (ws_1 w) (Nat.le_of_ble_eq_true rfl) tw_1775 d_X12_look_32 rfl rfl nf_i ?_
      refine aw_goto (tgt := 0) d_X12_look_35 rfl ?_
      exact k
theorem t_X12_look_0 (d : Nat) (h : Hp_) (w : Wf h)  (K : Int32 → Hp_ → Prop) (k : ((h_i h 1 32) ≤ (h_i h 1 33) → ((h_i h 1 32) ≤ (h_i h 1 33) → K (-1) h) ∧ (¬ (h_i h 1 32) ≤ (h_i h 1 33) → vp_in (h_i h 1 33) 160 ∧ (K (h_i h 225 ((h_i h 1 33) : Int32).toNatClampNeg) h))) ∧ (¬ (h_i h 1 32) ≤ (h_i h 1 33) → vp_in (h_i h 1 33) 160 ∧ ((¬ (h_i h 225 ((h_i h 1 33) : Int32).toNatClampNeg) = 32 → ((h_i h 1 32) ≤ (h_i h 1 33) → K (-1) h) ∧ (¬ (h_i h 1 32) ≤ (h_i h 1 33) → vp_in (h_i h 1 33) 160 ∧ (K (h_i h 225 ((h_i h 1 33) : Int32).toNatClampNeg) h))) ∧ ((h_i h 225 ((h_i h 1 33) : Int32).toNatClampNeg) = 32 → AW (m_X12_look (d + 0) 0 0) 0 0 0 [(0, .ref 1)] [] (h_im h 1 33 ((h_i h 1 33) + 1)) (kI K))))) : AW (m_X12_look (d + 0) 0 0) 0 0 0 [(0, .ref 1)] [] h (kI K) := by
  refine aw_aload_n (i := 0) rfl d_X12_look_0 0 rfl ?_
  refine aw_geti (k0 := 33) kc_12 (ws_1 w) (Nat.le_of_ble_eq_true rfl) tw_1775 d_X12_look_1 rfl ?_
  refine aw_aload_n (i := 0) rfl d_X12_look_4 0 rfl ?_
  refine aw_geti (k0 := 32) kc_12 (ws_1 w) (Nat.le_of_ble_eq_true rfl) tw_1774 d_X12_look_5 rfl ?_
  refine aw_icmp_ge (tgt := 38) d_X12_look_8 rfl (fun c8 => ?_) (fun c8 => ?_)
  · have k := k.1 c8
    refine aw_aload_n (i := 0) rfl d_X12_look_38 0 rfl ?_
    refine aw_geti (k0 := 33) kc_12 (ws_1 w) (Nat.le_of_ble_eq_true rfl) tw_1775 d_X12_look_39 rfl ?_
    refine aw_aload_n (i := 0) rfl d_X12_look_42 0 rfl ?_
    refine aw_geti (k0 := 32) kc_12 (ws_1 w) (Nat.le_of_ble_eq_true rfl) tw_1774 d_X12_look_43 rfl ?_
    refine aw_icmp_ge (tgt := 61) d_X12_look_46 rfl (fun c9 => ?_) (fun c9 => ?_)
    · have k := k.1 c9
      refine aw_iconst (v := (-1)) d_X12_look_61 ic_m1 ?_
      exact aw_iret rfl d_X12_look_62 ⟨Nat.le_refl _, Nat.le_refl _⟩ ⟨_, rfl, k⟩
    · have k := k.2 c9
      refine aw_aload_n (i := 0) rfl d_X12_look_49 0 rfl ?_
      refine aw_getr (k0 := 30) kc_12 (ws_1 w) (Nat.le_of_ble_eq_true rfl) tw_1772 d_X12_look_50 rfl (wr_1_30 w) ?_
      refine aw_aload_n (i := 0) rfl d_X12_look_53 0 rfl ?_
      refine aw_geti (k0 := 33) kc_12 (ws_1 w) (Nat.le_of_ble_eq_true rfl) tw_1775 d_X12_look_54 rfl ?_
      obtain ⟨b10, k⟩ := k
      refine aw_iald (ws_225 w) b10 d_X12_look_57 ?_
      refine aw_goto (tgt := 62) d_X12_look_58 rfl ?_
      exact aw_iret rfl d_X12_look_62 ⟨Nat.le_refl _, Nat.le_refl _⟩ ⟨_, rfl, k⟩
  · have k := k.2 c8
    refine aw_aload_n (i := 0) rfl d_X12_look_11 0 rfl ?_
    refine aw_getr (k0 := 30) kc_12 (ws_1 w) (Nat.le_of_ble_eq_true rfl) tw_1772 d_X12_look_12 rfl (wr_1_30 w) ?_
    refine aw_aload_n (i := 0) rfl d_X12_look_15 0 rfl ?_
    refine aw_geti (k0 := 33) kc_12 (ws_1 w) (Nat.le_of_ble_eq_true rfl) tw_1775 d_X12_look_16 rfl ?_
    obtain ⟨b11, k⟩ := k
    refine aw_iald (ws_225 w) b11 d_X12_look_19 ?_
    refine aw_bipush (v := 32) d_X12_look_20 ib_32 ?_
    refine aw_icmp_ne (tgt := 38) d_X12_look_22 rfl (fun c12 => ?_) (fun c12 => ?_)
    · have k := k.1 c12
      refine aw_aload_n (i := 0) rfl d_X12_look_38 0 rfl ?_
      refine aw_geti (k0 := 33) kc_12 (ws_1 w) (Nat.le_of_ble_eq_true rfl) tw_1775 d_X12_look_39 rfl ?_
      refine aw_aload_n (i := 0) rfl d_X12_look_42 0 rfl ?_
      refine aw_geti (k0 := 32) kc_12 (ws_1 w) (Nat.le_of_ble_eq_true rfl) tw_1774 d_X12_look_43 rfl ?_
      refine aw_icmp_ge (tgt := 61) d_X12_look_46 rfl (fun c13 => ?_) (fun c13 => ?_)
      · have k := k.1 c13
        refine aw_iconst (v := (-1)) d_X12_look_61 ic_m1 ?_
        exact aw_iret rfl d_X12_look_62 ⟨Nat.le_refl _, Nat.le_refl _⟩ ⟨_, rfl, k⟩
      · have k := k.2 c13
        refine aw_aload_n (i := 0) rfl d_X12_look_49 0 rfl ?_
        refine aw_getr (k0 := 30) kc_12 (ws_1 w) (Nat.le_of_ble_eq_true rfl) tw_1772 d_X12_look_50 rfl (wr_1_30 w) ?_
        refine aw_aload_n (i := 0) rfl d_X12_look_53 0 rfl ?_
        refine aw_geti (k0 := 33) kc_12 (ws_1 w) (Nat.le_of_ble_eq_true rfl) tw_1775 d_X12_look_54 rfl ?_
        obtain ⟨b14, k⟩ := k
        refine aw_iald (ws_225 w) b14 d_X12_look_57 ?_
        refine aw_goto (tgt := 62) d_X12_look_58 rfl ?_
        exact aw_iret rfl d_X12_look_62 ⟨Nat.le_refl _, Nat.le_refl _⟩ ⟨_, rfl, k⟩
    · have k := k.2 c12
      refine aw_aload_n (i := 0) rfl d_X12_look_25 0 rfl ?_
      refine aw_dup d_X12_look_26 rfl ?_
      refine aw_geti (k0 := 33) kc_12 (ws_1 w) (Nat.le_of_ble_eq_true rfl) tw_1775 d_X12_look_27 rfl ?_
      refine aw_iconst (v := 1) d_X12_look_30 ic_1 ?_
      refine aw_iadd d_X12_look_31 ?_
      refine aw_puti (k0 := 33) kc_12 (ws_1 w) (Nat.le_of_ble_eq_true rfl) tw_1775 d_X12_look_32 rfl rfl nf_i ?_
      refine aw_goto (tgt := 0) d_X12_look_35 rfl ?_
      exact k
theorem t_X12_bad (d : Nat) (h : Hp_) (w : Wf h)  (K : Hp_ → Prop) (k : (¬ (h_i h 1 34) = (-1) → K (h_im h 1 34 (h_i h 1 34))) ∧ ((h_i h 1 34) = (-1) → K (h_im h 1 34 (h_i h 1 33)))) : Cv (m_X12_bad (d + 0) 0 0) [.ref 1] h K := by
  refine Ct.of (fun _ _ _ => trivial) rfl (Nat.le_of_ble_eq_true rfl) ?_
  show AW (m_X12_bad (d + 0) 0 0) 0 0 0 [(0, .ref 1)] [] h (kV K)
  refine aw_aload_n (i := 0) rfl d_X12_bad_0 0 rfl ?_
  refine aw_aload_n (i := 0) rfl d_X12_bad_1 0 rfl ?_
  refine aw_geti (k0 := 34) kc_12 (ws_1 w) (Nat.le_of_ble_eq_true rfl) tw_1776 d_X12_bad_2 rfl ?_
  refine aw_iconst (v := (-1)) d_X12_bad_5 ic_m1 ?_
  refine aw_icmp_ne (tgt := 16) d_X12_bad_6 rfl (fun c1 => ?_) (fun c1 => ?_)
  · have k := k.1 c1
    refine aw_aload_n (i := 0) rfl d_X12_bad_16 0 rfl ?_
    refine aw_geti (k0 := 34) kc_12 (ws_1 w) (Nat.le_of_ble_eq_true rfl) tw_1776 d_X12_bad_17 rfl ?_
    refine aw_puti (k0 := 34) kc_12 (ws_1 w) (Nat.le_of_ble_eq_true rfl) tw_1776 d_X12_bad_20 rfl rfl nf_i ?_
    exact aw_vret rfl d_X12_bad_23 ⟨Nat.le_refl _, Nat.le_refl _⟩ ⟨rfl, k⟩
  · have k := k.2 c1
    refine aw_aload_n (i := 0) rfl d_X12_bad_9 0 rfl ?_
    refine aw_geti (k0 := 33) kc_12 (ws_1 w) (Nat.le_of_ble_eq_true rfl) tw_1775 d_X12_bad_10 rfl ?_
    refine aw_goto (tgt := 20) d_X12_bad_13 rfl ?_
    refine aw_puti (k0 := 34) kc_12 (ws_1 w) (Nat.le_of_ble_eq_true rfl) tw_1776 d_X12_bad_20 rfl rfl nf_i ?_
    exact aw_vret rfl d_X12_bad_23 ⟨Nat.le_refl _, Nat.le_refl _⟩ ⟨rfl, k⟩
theorem t_X12_say (d : Nat) (h : Hp_) (w : Wf h) (x1 : Int32) (K : Hp_ → Prop) (k : vp_in (h_i h 1 36) 560 ∧ (K (h_im (h_im h 226 ((h_i h 1 36) : Int32).toNatClampNeg x1) 1 36 ((h_i h 1 36) + 1)))) : Cv (m_X12_say (d + 0) 0 0) [.ref 1, .int x1] h K := by
  refine Ct.of (fun _ _ _ => trivial) rfl (Nat.le_of_ble_eq_true rfl) ?_
  show AW (m_X12_say (d + 0) 0 0) 0 0 0 [(0, .ref 1), (1, .int x1)] [] h (kV K)
  refine aw_aload_n (i := 0) rfl d_X12_say_0 0 rfl ?_
  refine aw_getr (k0 := 31) kc_12 (ws_1 w) (Nat.le_of_ble_eq_true rfl) tw_1773 d_X12_say_1 rfl (wr_1_31 w) ?_
  refine aw_aload_n (i := 0) rfl d_X12_say_4 0 rfl ?_
  refine aw_geti (k0 := 36) kc_12 (ws_1 w) (Nat.le_of_ble_eq_true rfl) tw_1778 d_X12_say_5 rfl ?_
  refine aw_iload_n (i := 1) rfl d_X12_say_8 1 rfl ?_
  obtain ⟨b1, k⟩ := k
  refine aw_iast (ws_226 w) b1 d_X12_say_9 ?_
  refine aw_aload_n (i := 0) rfl d_X12_say_10 0 rfl ?_
  refine aw_dup d_X12_say_11 rfl ?_
  refine aw_geti (k0 := 36) kc_12 (ws_1 w) (Nat.le_of_ble_eq_true rfl) tw_1778 d_X12_say_12 rfl ?_
  refine aw_vi (v2 := (h_i h 1 36)) (rfl) ?_
  refine aw_iconst (v := 1) d_X12_say_15 ic_1 ?_
  refine aw_iadd d_X12_say_16 ?_
  refine aw_puti (k0 := 36) kc_12 (ws_1 w) (Nat.le_of_ble_eq_true rfl) tw_1778 d_X12_say_17 rfl rfl nf_i ?_
  exact aw_vret rfl d_X12_say_20 ⟨Nat.le_refl _, Nat.le_refl _⟩ ⟨rfl, k⟩
theorem t_X12_isDigit (d : Nat) (h : Hp_) (x0 : Int32) (K : Int32 → Hp_ → Prop) (k : (x0 < 48 → K 0 h) ∧ (¬ x0 < 48 → (57 < x0 → K 0 h) ∧ (¬ 57 < x0 → K 1 h))) : Ci (m_X12_isDigit (d + 0) 0 0) [.int x0] h K := by
  refine Ct.of (fun _ _ _ => trivial) rfl (Nat.le_of_ble_eq_true rfl) ?_
  show AW (m_X12_isDigit (d + 0) 0 0) 0 0 0 [(0, .int x0)] [] h (kI K)
  refine aw_iload_n (i := 0) rfl d_X12_isDigit_0 0 rfl ?_
  refine aw_bipush (v := 48) d_X12_isDigit_1 ib_48 ?_
  refine aw_icmp_lt (tgt := 16) d_X12_isDigit_3 rfl (fun c1 => ?_) (fun c1 => ?_)
  · have k := k.1 c1
    refine aw_iconst (v := 0) d_X12_isDigit_16 ic_0 ?_
    exact aw_zret rfl rfl d_X12_isDigit_17 ⟨Nat.le_refl _, Nat.le_refl _⟩ ⟨_, rfl, k⟩
  · have k := k.2 c1
    refine aw_iload_n (i := 0) rfl d_X12_isDigit_6 0 rfl ?_
    refine aw_bipush (v := 57) d_X12_isDigit_7 ib_57 ?_
    refine aw_icmp_gt (tgt := 16) d_X12_isDigit_9 rfl (fun c2 => ?_) (fun c2 => ?_)
    · have k := k.1 c2
      refine aw_iconst (v := 0) d_X12_isDigit_16 ic_0 ?_
      exact aw_zret rfl rfl d_X12_isDigit_17 ⟨Nat.le_refl _, Nat.le_refl _⟩ ⟨_, rfl, k⟩
    · have k := k.2 c2
      refine aw_iconst (v := 1) d_X12_isDigit_12 ic_1 ?_
      refine aw_goto (tgt := 17) d_X12_isDigit_13 rfl ?_
      exact aw_zret rfl rfl d_X12_isDigit_17 ⟨Nat.le_refl _, Nat.le_refl _⟩ ⟨_, rfl, k⟩
theorem t_X12_pointsOf (d : Nat) (h : Hp_) (x1 : Int32) (K : Int32 → Hp_ → Prop) (k : AW (m_X12_pointsOf (d + 0) 0 0) 0 0 8 [(0, .ref 1), (1, .int x1), (2, .int 0), (3, .int (150 * x1))] [] h (kI K)) : Ci (m_X12_pointsOf (d + 0) 0 0) [.ref 1, .int x1] h K := by
  refine Ct.of (fun _ _ _ => trivial) rfl (Nat.le_of_ble_eq_true rfl) ?_
  show AW (m_X12_pointsOf (d + 0) 0 0) 0 0 0 [(0, .ref 1), (1, .int x1)] [] h (kI K)
  refine aw_iconst (v := 0) d_X12_pointsOf_0 ic_0 ?_
  refine aw_istore_n (i := 2) rfl [(0, .ref 1), (1, .int x1), (2, .int 0)] d_X12_pointsOf_1 (Nat.le_of_ble_eq_true rfl) rfl rfl ?_
  refine aw_sipush (v := 150) d_X12_pointsOf_2 is_150 ?_
  refine aw_iload_n (i := 1) rfl d_X12_pointsOf_5 1 rfl ?_
  refine aw_imul d_X12_pointsOf_6 ?_
  refine aw_istore_n (i := 3) rfl [(0, .ref 1), (1, .int x1), (2, .int 0), (3, .int (150 * x1))] d_X12_pointsOf_7 (Nat.le_of_ble_eq_true rfl) rfl rfl ?_
  exact k
theorem t_X12_pointsOf_8 (d : Nat) (h : Hp_) (w : Wf h) (x1 : Int32) (x2 : Int32) (x3 : Int32) (K : Int32 → Hp_ → Prop) (k : vp_in x1 12 ∧ ((((150 * x1) + (h_i h 227 x1.toNatClampNeg)) ≤ x3 → K x2 h) ∧ (¬ ((150 * x1) + (h_i h 227 x1.toNatClampNeg)) ≤ x3 → vp_in x3 1800 ∧ ((¬ (h_i h 228 x3.toNatClampNeg) = 2 → AW (m_X12_pointsOf (d + 0) 0 0) 0 0 8 [(0, .ref 1), (1, .int x1), (2, .int (x2 + 0)), (3, .int (x3 + 1))] [] h (kI K)) ∧ ((h_i h 228 x3.toNatClampNeg) = 2 → AW (m_X12_pointsOf (d + 0) 0 0) 0 0 8 [(0, .ref 1), (1, .int x1), (2, .int (x2 + 1)), (3, .int (x3 + 1))] [] h (kI K)))))) : AW (m_X12_pointsOf (d + 0) 0 0) 0 0 8 [(0, .ref 1), (1, .int x1), (2, .int x2), (3, .int x3)] [] h (kI K) := by
  refine aw_iload_n (i := 3) rfl d_X12_pointsOf_8 3 rfl ?_
  refine aw_sipush (v := 150) d_X12_pointsOf_9 is_150 ?_
  refine aw_iload_n (i := 1) rfl d_X12_pointsOf_12 1 rfl ?_
  refine aw_imul d_X12_pointsOf_13 ?_
  refine aw_aload_n (i := 0) rfl d_X12_pointsOf_14 0 rfl ?_
  refine aw_getr (k0 := 38) kc_12 (ws_1 w) (Nat.le_of_ble_eq_true rfl) tw_1780 d_X12_pointsOf_15 rfl (wr_1_38 w) ?_
  refine aw_iload_n (i := 1) rfl d_X12_pointsOf_18 1 rfl ?_
  obtain ⟨b1, k⟩ := k
  refine aw_iald (ws_227 w) b1 d_X12_pointsOf_19 ?_
  refine aw_iadd d_X12_pointsOf_20 ?_
  refine aw_icmp_ge (tgt := 48) d_X12_pointsOf_21 rfl (fun c2 => ?_) (fun c2 => ?_)
  · have k := k.1 c2
    refine aw_iload_n (i := 2) rfl d_X12_pointsOf_48 2 rfl ?_
    exact aw_iret rfl d_X12_pointsOf_49 ⟨Nat.le_refl _, Nat.le_refl _⟩ ⟨_, rfl, k⟩
  · have k := k.2 c2
    refine aw_iload_n (i := 2) rfl d_X12_pointsOf_24 2 rfl ?_
    refine aw_aload_n (i := 0) rfl d_X12_pointsOf_25 0 rfl ?_
    refine aw_getr (k0 := 39) kc_12 (ws_1 w) (Nat.le_of_ble_eq_true rfl) tw_1781 d_X12_pointsOf_26 rfl (wr_1_39 w) ?_
    refine aw_iload_n (i := 3) rfl d_X12_pointsOf_29 3 rfl ?_
    obtain ⟨b3, k⟩ := k
    refine aw_iald (ws_228 w) b3 d_X12_pointsOf_30 ?_
    refine aw_iconst (v := 2) d_X12_pointsOf_31 ic_2 ?_
    refine aw_icmp_ne (tgt := 39) d_X12_pointsOf_32 rfl (fun c4 => ?_) (fun c4 => ?_)
    · have k := k.1 c4
      refine aw_iconst (v := 0) d_X12_pointsOf_39 ic_0 ?_
      refine aw_iadd d_X12_pointsOf_40 ?_
      refine aw_istore_n (i := 2) rfl [(0, .ref 1), (1, .int x1), (2, .int (x2 + 0)), (3, .int x3)] d_X12_pointsOf_41 (Nat.le_of_ble_eq_true rfl) rfl rfl ?_
      refine aw_iinc (v := (x3 + 1)) [(0, .ref 1), (1, .int x1), (2, .int (x2 + 0)), (3, .int (x3 + 1))] d_X12_pointsOf_42 3 rfl rfl (Nat.le_of_ble_eq_true rfl) rfl rfl ?_
      refine aw_goto (tgt := 8) d_X12_pointsOf_45 rfl ?_
      exact k
    · have k := k.2 c4
      refine aw_iconst (v := 1) d_X12_pointsOf_35 ic_1 ?_
      refine aw_goto (tgt := 40) d_X12_pointsOf_36 rfl ?_
      refine aw_iadd d_X12_pointsOf_40 ?_
      refine aw_istore_n (i := 2) rfl [(0, .ref 1), (1, .int x1), (2, .int (x2 + 1)), (3, .int x3)] d_X12_pointsOf_41 (Nat.le_of_ble_eq_true rfl) rfl rfl ?_
      refine aw_iinc (v := (x3 + 1)) [(0, .ref 1), (1, .int x1), (2, .int (x2 + 1)), (3, .int (x3 + 1))] d_X12_pointsOf_42 3 rfl rfl (Nat.le_of_ble_eq_true rfl) rfl rfl ?_
      refine aw_goto (tgt := 8) d_X12_pointsOf_45 rfl ?_
      exact k
theorem t_X12_isLetter (d : Nat) (h : Hp_) (x0 : Int32) (x1 : Int32) (K : Int32 → Hp_ → Prop) (k : (x0 = 97 → (¬ x1 = 2 → K 0 h) ∧ (x1 = 2 → K 1 h)) ∧ ((x0 = 99 → K 1 h) ∧ ((x0 = 100 → (¬ x1 = 1 → K 0 h) ∧ (x1 = 1 → K 1 h)) ∧ ((x0 = 101 → (¬ x1 = 1 → K 0 h) ∧ (x1 = 1 → K 1 h)) ∧ ((x0 = 104 → (¬ x1 = 1 → K 0 h) ∧ (x1 = 1 → K 1 h)) ∧ ((x0 = 107 → (¬ x1 = 1 → K 0 h) ∧ (x1 = 1 → K 1 h)) ∧ ((x0 = 109 → (¬ x1 = 2 → K 0 h) ∧ (x1 = 2 → K 1 h)) ∧ ((x0 = 110 → (¬ x1 = 1 → K 0 h) ∧ (x1 = 1 → K 1 h)) ∧ ((x0 = 112 → (¬ x1 = 1 → K 0 h) ∧ (x1 = 1 → K 1 h)) ∧ ((x0 = 116 → K 1 h) ∧ ((x0 = 119 → (¬ x1 = 1 → K 0 h) ∧ (x1 = 1 → K 1 h)) ∧ ((x0 = 120 → (¬ x1 = 2 → K 0 h) ∧ (x1 = 2 → K 1 h)) ∧ ((x0 = 121 → (¬ x1 = 2 → K 0 h) ∧ (x1 = 2 → K 1 h)) ∧ ((¬ x0 = 97 ∧ ¬ x0 = 99 ∧ ¬ x0 = 100 ∧ ¬ x0 = 101 ∧ ¬ x0 = 104 ∧ ¬ x0 = 107 ∧ ¬ x0 = 109 ∧ ¬ x0 = 110 ∧ ¬ x0 = 112 ∧ ¬ x0 = 116 ∧ ¬ x0 = 119 ∧ ¬ x0 = 120 ∧ ¬ x0 = 121 → K 0 h))))))))))))))) : Ci (m_X12_isLetter (d + 0) 0 0) [.int x0, .int x1] h K := by
  refine Ct.of (fun _ _ _ => trivial) rfl (Nat.le_of_ble_eq_true rfl) ?_
  show AW (m_X12_isLetter (d + 0) 0 0) 0 0 0 [(0, .int x0), (1, .int x1)] [] h (kI K)
  refine aw_iload_n (i := 0) rfl d_X12_isLetter_0 0 rfl ?_
  by_cases e1 : x0 = 97
  · refine aw_tableIn (off := 128) (tgt := 129) d_X12_isLetter_1 (by rw [e1]; decide) (by rw [e1]; decide) (by rw [e1]; decide) rfl ?_
    have k := k.1 e1
    refine aw_iload_n (i := 1) rfl d_X12_isLetter_129 1 rfl ?_
    refine aw_iconst (v := 2) d_X12_isLetter_130 ic_2 ?_
    refine aw_icmp_ne (tgt := 138) d_X12_isLetter_131 rfl (fun c2 => ?_) (fun c2 => ?_)
    · have k := k.1 c2
      refine aw_iconst (v := 0) d_X12_isLetter_138 ic_0 ?_
      exact aw_zret rfl rfl d_X12_isLetter_139 ⟨Nat.le_refl _, Nat.le_refl _⟩ ⟨_, rfl, k⟩
    · have k := k.2 c2
      refine aw_iconst (v := 1) d_X12_isLetter_134 ic_1 ?_
      refine aw_goto (tgt := 139) d_X12_isLetter_135 rfl ?_
      exact aw_zret rfl rfl d_X12_isLetter_139 ⟨Nat.le_refl _, Nat.le_refl _⟩ ⟨_, rfl, k⟩
  · have k := k.2
    by_cases e3 : x0 = 99
    · refine aw_tableIn (off := 115) (tgt := 116) d_X12_isLetter_1 (by rw [e3]; decide) (by rw [e3]; decide) (by rw [e3]; decide) rfl ?_
      have k := k.1 e3
      refine aw_iconst (v := 1) d_X12_isLetter_116 ic_1 ?_
      exact aw_zret rfl rfl d_X12_isLetter_117 ⟨Nat.le_refl _, Nat.le_refl _⟩ ⟨_, rfl, k⟩
    · have k := k.2
      by_cases e4 : x0 = 100
      · refine aw_tableIn (off := 117) (tgt := 118) d_X12_isLetter_1 (by rw [e4]; decide) (by rw [e4]; decide) (by rw [e4]; decide) rfl ?_
        have k := k.1 e4
        refine aw_iload_n (i := 1) rfl d_X12_isLetter_118 1 rfl ?_
        refine aw_iconst (v := 1) d_X12_isLetter_119 ic_1 ?_
        refine aw_icmp_ne (tgt := 127) d_X12_isLetter_120 rfl (fun c5 => ?_) (fun c5 => ?_)
        · have k := k.1 c5
          refine aw_iconst (v := 0) d_X12_isLetter_127 ic_0 ?_
          exact aw_zret rfl rfl d_X12_isLetter_128 ⟨Nat.le_refl _, Nat.le_refl _⟩ ⟨_, rfl, k⟩
        · have k := k.2 c5
          refine aw_iconst (v := 1) d_X12_isLetter_123 ic_1 ?_
          refine aw_goto (tgt := 128) d_X12_isLetter_124 rfl ?_
          exact aw_zret rfl rfl d_X12_isLetter_128 ⟨Nat.le_refl _, Nat.le_refl _⟩ ⟨_, rfl, k⟩
      · have k := k.2
        by_cases e6 : x0 = 101
        · refine aw_tableIn (off := 117) (tgt := 118) d_X12_isLetter_1 (by rw [e6]; decide) (by rw [e6]; decide) (by rw [e6]; decide) rfl ?_
          have k := k.1 e6
          refine aw_iload_n (i := 1) rfl d_X12_isLetter_118 1 rfl ?_
          refine aw_iconst (v := 1) d_X12_isLetter_119 ic_1 ?_
          refine aw_icmp_ne (tgt := 127) d_X12_isLetter_120 rfl (fun c7 => ?_) (fun c7 => ?_)
          · have k := k.1 c7
            refine aw_iconst (v := 0) d_X12_isLetter_127 ic_0 ?_
            exact aw_zret rfl rfl d_X12_isLetter_128 ⟨Nat.le_refl _, Nat.le_refl _⟩ ⟨_, rfl, k⟩
          · have k := k.2 c7
            refine aw_iconst (v := 1) d_X12_isLetter_123 ic_1 ?_
            refine aw_goto (tgt := 128) d_X12_isLetter_124 rfl ?_
            exact aw_zret rfl rfl d_X12_isLetter_128 ⟨Nat.le_refl _, Nat.le_refl _⟩ ⟨_, rfl, k⟩
        · have k := k.2
          by_cases e8 : x0 = 104
          · refine aw_tableIn (off := 117) (tgt := 118) d_X12_isLetter_1 (by rw [e8]; decide) (by rw [e8]; decide) (by rw [e8]; decide) rfl ?_
            have k := k.1 e8
            refine aw_iload_n (i := 1) rfl d_X12_isLetter_118 1 rfl ?_
            refine aw_iconst (v := 1) d_X12_isLetter_119 ic_1 ?_
            refine aw_icmp_ne (tgt := 127) d_X12_isLetter_120 rfl (fun c9 => ?_) (fun c9 => ?_)
            · have k := k.1 c9
              refine aw_iconst (v := 0) d_X12_isLetter_127 ic_0 ?_
              exact aw_zret rfl rfl d_X12_isLetter_128 ⟨Nat.le_refl _, Nat.le_refl _⟩ ⟨_, rfl, k⟩
            · have k := k.2 c9
              refine aw_iconst (v := 1) d_X12_isLetter_123 ic_1 ?_
              refine aw_goto (tgt := 128) d_X12_isLetter_124 rfl ?_
              exact aw_zret rfl rfl d_X12_isLetter_128 ⟨Nat.le_refl _, Nat.le_refl _⟩ ⟨_, rfl, k⟩
          · have k := k.2
            by_cases e10 : x0 = 107
            · refine aw_tableIn (off := 117) (tgt := 118) d_X12_isLetter_1 (by rw [e10]; decide) (by rw [e10]; decide) (by rw [e10]; decide) rfl ?_
              have k := k.1 e10
              refine aw_iload_n (i := 1) rfl d_X12_isLetter_118 1 rfl ?_
              refine aw_iconst (v := 1) d_X12_isLetter_119 ic_1 ?_
              refine aw_icmp_ne (tgt := 127) d_X12_isLetter_120 rfl (fun c11 => ?_) (fun c11 => ?_)
              · have k := k.1 c11
                refine aw_iconst (v := 0) d_X12_isLetter_127 ic_0 ?_
                exact aw_zret rfl rfl d_X12_isLetter_128 ⟨Nat.le_refl _, Nat.le_refl _⟩ ⟨_, rfl, k⟩
              · have k := k.2 c11
                refine aw_iconst (v := 1) d_X12_isLetter_123 ic_1 ?_
                refine aw_goto (tgt := 128) d_X12_isLetter_124 rfl ?_
                exact aw_zret rfl rfl d_X12_isLetter_128 ⟨Nat.le_refl _, Nat.le_refl _⟩ ⟨_, rfl, k⟩
            · have k := k.2
              by_cases e12 : x0 = 109
              · refine aw_tableIn (off := 128) (tgt := 129) d_X12_isLetter_1 (by rw [e12]; decide) (by rw [e12]; decide) (by rw [e12]; decide) rfl ?_
                have k := k.1 e12
                refine aw_iload_n (i := 1) rfl d_X12_isLetter_129 1 rfl ?_
                refine aw_iconst (v := 2) d_X12_isLetter_130 ic_2 ?_
                refine aw_icmp_ne (tgt := 138) d_X12_isLetter_131 rfl (fun c13 => ?_) (fun c13 => ?_)
                · have k := k.1 c13
                  refine aw_iconst (v := 0) d_X12_isLetter_138 ic_0 ?_
                  exact aw_zret rfl rfl d_X12_isLetter_139 ⟨Nat.le_refl _, Nat.le_refl _⟩ ⟨_, rfl, k⟩
                · have k := k.2 c13
                  refine aw_iconst (v := 1) d_X12_isLetter_134 ic_1 ?_
                  refine aw_goto (tgt := 139) d_X12_isLetter_135 rfl ?_
                  exact aw_zret rfl rfl d_X12_isLetter_139 ⟨Nat.le_refl _, Nat.le_refl _⟩ ⟨_, rfl, k⟩
              · have k := k.2
                by_cases e14 : x0 = 110
                · refine aw_tableIn (off := 117) (tgt := 118) d_X12_isLetter_1 (by rw [e14]; decide) (by rw [e14]; decide) (by rw [e14]; decide) rfl ?_
                  have k := k.1 e14
                  refine aw_iload_n (i := 1) rfl d_X12_isLetter_118 1 rfl ?_
                  refine aw_iconst (v := 1) d_X12_isLetter_119 ic_1 ?_
                  refine aw_icmp_ne (tgt := 127) d_X12_isLetter_120 rfl (fun c15 => ?_) (fun c15 => ?_)
                  · have k := k.1 c15
                    refine aw_iconst (v := 0) d_X12_isLetter_127 ic_0 ?_
                    exact aw_zret rfl rfl d_X12_isLetter_128 ⟨Nat.le_refl _, Nat.le_refl _⟩ ⟨_, rfl, k⟩
                  · have k := k.2 c15
                    refine aw_iconst (v := 1) d_X12_isLetter_123 ic_1 ?_
                    refine aw_goto (tgt := 128) d_X12_isLetter_124 rfl ?_
                    exact aw_zret rfl rfl d_X12_isLetter_128 ⟨Nat.le_refl _, Nat.le_refl _⟩ ⟨_, rfl, k⟩
                · have k := k.2
                  by_cases e16 : x0 = 112
                  · refine aw_tableIn (off := 117) (tgt := 118) d_X12_isLetter_1 (by rw [e16]; decide) (by rw [e16]; decide) (by rw [e16]; decide) rfl ?_
                    have k := k.1 e16
                    refine aw_iload_n (i := 1) rfl d_X12_isLetter_118 1 rfl ?_
                    refine aw_iconst (v := 1) d_X12_isLetter_119 ic_1 ?_
                    refine aw_icmp_ne (tgt := 127) d_X12_isLetter_120 rfl (fun c17 => ?_) (fun c17 => ?_)
                    · have k := k.1 c17
                      refine aw_iconst (v := 0) d_X12_isLetter_127 ic_0 ?_
                      exact aw_zret rfl rfl d_X12_isLetter_128 ⟨Nat.le_refl _, Nat.le_refl _⟩ ⟨_, rfl, k⟩
                    · have k := k.2 c17
                      refine aw_iconst (v := 1) d_X12_isLetter_123 ic_1 ?_
                      refine aw_goto (tgt := 128) d_X12_isLetter_124 rfl ?_
                      exact aw_zret rfl rfl d_X12_isLetter_128 ⟨Nat.le_refl _, Nat.le_refl _⟩ ⟨_, rfl, k⟩
                  · have k := k.2
                    by_cases e18 : x0 = 116
                    · refine aw_tableIn (off := 115) (tgt := 116) d_X12_isLetter_1 (by rw [e18]; decide) (by rw [e18]; decide) (by rw [e18]; decide) rfl ?_
                      have k := k.1 e18
                      refine aw_iconst (v := 1) d_X12_isLetter_116 ic_1 ?_
                      exact aw_zret rfl rfl d_X12_isLetter_117 ⟨Nat.le_refl _, Nat.le_refl _⟩ ⟨_, rfl, k⟩
                    · have k := k.2
                      by_cases e19 : x0 = 119
                      · refine aw_tableIn (off := 117) (tgt := 118) d_X12_isLetter_1 (by rw [e19]; decide) (by rw [e19]; decide) (by rw [e19]; decide) rfl ?_
                        have k := k.1 e19
                        refine aw_iload_n (i := 1) rfl d_X12_isLetter_118 1 rfl ?_
                        refine aw_iconst (v := 1) d_X12_isLetter_119 ic_1 ?_
                        refine aw_icmp_ne (tgt := 127) d_X12_isLetter_120 rfl (fun c20 => ?_) (fun c20 => ?_)
                        · have k := k.1 c20
                          refine aw_iconst (v := 0) d_X12_isLetter_127 ic_0 ?_
                          exact aw_zret rfl rfl d_X12_isLetter_128 ⟨Nat.le_refl _, Nat.le_refl _⟩ ⟨_, rfl, k⟩
                        · have k := k.2 c20
                          refine aw_iconst (v := 1) d_X12_isLetter_123 ic_1 ?_
                          refine aw_goto (tgt := 128) d_X12_isLetter_124 rfl ?_
                          exact aw_zret rfl rfl d_X12_isLetter_128 ⟨Nat.le_refl _, Nat.le_refl _⟩ ⟨_, rfl, k⟩
                      · have k := k.2
                        by_cases e21 : x0 = 120
                        · refine aw_tableIn (off := 128) (tgt := 129) d_X12_isLetter_1 (by rw [e21]; decide) (by rw [e21]; decide) (by rw [e21]; decide) rfl ?_
                          have k := k.1 e21
                          refine aw_iload_n (i := 1) rfl d_X12_isLetter_129 1 rfl ?_
                          refine aw_iconst (v := 2) d_X12_isLetter_130 ic_2 ?_
                          refine aw_icmp_ne (tgt := 138) d_X12_isLetter_131 rfl (fun c22 => ?_) (fun c22 => ?_)
                          · have k := k.1 c22
                            refine aw_iconst (v := 0) d_X12_isLetter_138 ic_0 ?_
                            exact aw_zret rfl rfl d_X12_isLetter_139 ⟨Nat.le_refl _, Nat.le_refl _⟩ ⟨_, rfl, k⟩
                          · have k := k.2 c22
                            refine aw_iconst (v := 1) d_X12_isLetter_134 ic_1 ?_
                            refine aw_goto (tgt := 139) d_X12_isLetter_135 rfl ?_
                            exact aw_zret rfl rfl d_X12_isLetter_139 ⟨Nat.le_refl _, Nat.le_refl _⟩ ⟨_, rfl, k⟩
                        · have k := k.2
                          by_cases e23 : x0 = 121
                          · refine aw_tableIn (off := 128) (tgt := 129) d_X12_isLetter_1 (by rw [e23]; decide) (by rw [e23]; decide) (by rw [e23]; decide) rfl ?_
                            have k := k.1 e23
                            refine aw_iload_n (i := 1) rfl d_X12_isLetter_129 1 rfl ?_
                            refine aw_iconst (v := 2) d_X12_isLetter_130 ic_2 ?_
                            refine aw_icmp_ne (tgt := 138) d_X12_isLetter_131 rfl (fun c24 => ?_) (fun c24 => ?_)
                            · have k := k.1 c24
                              refine aw_iconst (v := 0) d_X12_isLetter_138 ic_0 ?_
                              exact aw_zret rfl rfl d_X12_isLetter_139 ⟨Nat.le_refl _, Nat.le_refl _⟩ ⟨_, rfl, k⟩
                            · have k := k.2 c24
                              refine aw_iconst (v := 1) d_X12_isLetter_134 ic_1 ?_
                              refine aw_goto (tgt := 139) d_X12_isLetter_135 rfl ?_
                              exact aw_zret rfl rfl d_X12_isLetter_139 ⟨Nat.le_refl _, Nat.le_refl _⟩ ⟨_, rfl, k⟩
                          · have k := k.2
                            have k := k ⟨e1, e3, e4, e6, e8, e10, e12, e14, e16, e18, e19, e21, e23⟩
                            have n25 := sw_ne (97) (by decide) e1
                            have n26 := sw_ne (99) (by decide) e3
                            have n27 := sw_ne (100) (by decide) e4
                            have n28 := sw_ne (101) (by decide) e6
                            have n29 := sw_ne (104) (by decide) e8
                            have n30 := sw_ne (107) (by decide) e10
                            have n31 := sw_ne (109) (by decide) e12
                            have n32 := sw_ne (110) (by decide) e14
                            have n33 := sw_ne (112) (by decide) e16
                            have n34 := sw_ne (116) (by decide) e18
                            have n35 := sw_ne (119) (by decide) e19
                            have n36 := sw_ne (120) (by decide) e21
                            have n37 := sw_ne (121) (by decide) e23
                            refine aw_tableD (tgt := 140) d_X12_isLetter_1 (by
                              rcases (show (x0 : Int32).toInt < 97 ∨ 121 < (x0 : Int32).toInt ∨ (x0 : Int32).toInt = 98 ∨ (x0 : Int32).toInt = 102 ∨ (x0 : Int32).toInt = 103 ∨ (x0 : Int32).toInt = 105 ∨ (x0 : Int32).toInt = 106 ∨ (x0 : Int32).toInt = 108 ∨ (x0 : Int32).toInt = 111 ∨ (x0 : Int32).toInt = 113 ∨ (x0 : Int32).toInt = 114 ∨ (x0 : Int32).toInt = 115 ∨ (x0 : Int32).toInt = 117 ∨ (x0 : Int32).toInt = 118 by omega) with e | e | e | e | e | e | e | e | e | e | e | e | e | e
                              · exact Or.inl e
                              · exact Or.inr (Or.inl e)
                              · exact Or.inr (Or.inr (by rw [e]; decide))
                              · exact Or.inr (Or.inr (by rw [e]; decide))
                              · exact Or.inr (Or.inr (by rw [e]; decide))
                              · exact Or.inr (Or.inr (by rw [e]; decide))
                              · exact Or.inr (Or.inr (by rw [e]; decide))
                              · exact Or.inr (Or.inr (by rw [e]; decide))
                              · exact Or.inr (Or.inr (by rw [e]; decide))
                              · exact Or.inr (Or.inr (by rw [e]; decide))
                              · exact Or.inr (Or.inr (by rw [e]; decide))
                              · exact Or.inr (Or.inr (by rw [e]; decide))
                              · exact Or.inr (Or.inr (by rw [e]; decide))
                              · exact Or.inr (Or.inr (by rw [e]; decide))) rfl ?_
                            refine aw_iconst (v := 0) d_X12_isLetter_140 ic_0 ?_
                            exact aw_zret rfl rfl d_X12_isLetter_141 ⟨Nat.le_refl _, Nat.le_refl _⟩ ⟨_, rfl, k⟩
theorem t_X12_isSign (d : Nat) (h : Hp_) (x0 : Int32) (K : Int32 → Hp_ → Prop) (k : (x0 = 61 → K 1 h) ∧ (¬ x0 = 61 → (x0 = 60 → K 1 h) ∧ (¬ x0 = 60 → (¬ x0 = 62 → K 0 h) ∧ (x0 = 62 → K 1 h)))) : Ci (m_X12_isSign (d + 0) 0 0) [.int x0] h K := by
  refine Ct.of (fun _ _ _ => trivial) rfl (Nat.le_of_ble_eq_true rfl) ?_
  show AW (m_X12_isSign (d + 0) 0 0) 0 0 0 [(0, .int x0)] [] h (kI K)
  refine aw_iload_n (i := 0) rfl d_X12_isSign_0 0 rfl ?_
  refine aw_bipush (v := 61) d_X12_isSign_1 ib_61 ?_
  refine aw_icmp_eq (tgt := 18) d_X12_isSign_3 rfl (fun c1 => ?_) (fun c1 => ?_)
  · have k := k.1 c1
    refine aw_iconst (v := 1) d_X12_isSign_18 ic_1 ?_
    refine aw_goto (tgt := 23) d_X12_isSign_19 rfl ?_
    exact aw_zret rfl rfl d_X12_isSign_23 ⟨Nat.le_refl _, Nat.le_refl _⟩ ⟨_, rfl, k⟩
  · have k := k.2 c1
    refine aw_iload_n (i := 0) rfl d_X12_isSign_6 0 rfl ?_
    refine aw_bipush (v := 60) d_X12_isSign_7 ib_60 ?_
    refine aw_icmp_eq (tgt := 18) d_X12_isSign_9 rfl (fun c2 => ?_) (fun c2 => ?_)
    · have k := k.1 c2
      refine aw_iconst (v := 1) d_X12_isSign_18 ic_1 ?_
      refine aw_goto (tgt := 23) d_X12_isSign_19 rfl ?_
      exact aw_zret rfl rfl d_X12_isSign_23 ⟨Nat.le_refl _, Nat.le_refl _⟩ ⟨_, rfl, k⟩
    · have k := k.2 c2
      refine aw_iload_n (i := 0) rfl d_X12_isSign_12 0 rfl ?_
      refine aw_bipush (v := 62) d_X12_isSign_13 ib_62 ?_
      refine aw_icmp_ne (tgt := 22) d_X12_isSign_15 rfl (fun c3 => ?_) (fun c3 => ?_)
      · have k := k.1 c3
        refine aw_iconst (v := 0) d_X12_isSign_22 ic_0 ?_
        exact aw_zret rfl rfl d_X12_isSign_23 ⟨Nat.le_refl _, Nat.le_refl _⟩ ⟨_, rfl, k⟩
      · have k := k.2 c3
        refine aw_iconst (v := 1) d_X12_isSign_18 ic_1 ?_
        refine aw_goto (tgt := 23) d_X12_isSign_19 rfl ?_
        exact aw_zret rfl rfl d_X12_isSign_23 ⟨Nat.le_refl _, Nat.le_refl _⟩ ⟨_, rfl, k⟩
theorem t_X12_forceOf (d : Nat) (h : Hp_) (x1 : Int32) (x2 : Int32) (x3 : Int32) (K : Int32 → Hp_ → Prop) (k : AW (m_X12_forceOf (d + 0) 0 0) 0 0 6 [(0, .ref 1), (1, .int x1), (2, .int x2), (3, .int x3), (4, .int (-1)), (5, .int 0)] [] h (kI K)) : Ci (m_X12_forceOf (d + 0) 0 0) [.ref 1, .int x1, .int x2, .int x3] h K := by
  refine Ct.of (fun _ _ _ => trivial) rfl (Nat.le_of_ble_eq_true rfl) ?_
  show AW (m_X12_forceOf (d + 0) 0 0) 0 0 0 [(0, .ref 1), (1, .int x1), (2, .int x2), (3, .int x3)] [] h (kI K)
  refine aw_iconst (v := (-1)) d_X12_forceOf_0 ic_m1 ?_
  refine aw_istore [(0, .ref 1), (1, .int x1), (2, .int x2), (3, .int x3), (4, .int (-1))] d_X12_forceOf_1 (Nat.le_of_ble_eq_true rfl) rfl rfl ?_
  refine aw_iconst (v := 0) d_X12_forceOf_3 ic_0 ?_
  refine aw_istore [(0, .ref 1), (1, .int x1), (2, .int x2), (3, .int x3), (4, .int (-1)), (5, .int 0)] d_X12_forceOf_4 (Nat.le_of_ble_eq_true rfl) rfl rfl ?_
  exact k
theorem t_X12_forceOf_6 (d : Nat) (h : Hp_) (w : Wf h) (x1 : Int32) (x2 : Int32) (x3 : Int32) (x4 : Int32) (x5 : Int32) (K : Int32 → Hp_ → Prop) (k : vp_in x1 2 ∧ (((h_i h 235 x1.toNatClampNeg) ≤ x5 → K x4 h) ∧ (¬ (h_i h 235 x1.toNatClampNeg) ≤ x5 → vp_in ((20 * x1) + x5) 40 ∧ ((x3 < (h_i h 234 (((20 * x1) + x5) : Int32).toNatClampNeg) → AW (m_X12_forceOf (d + 0) 0 0) 0 0 6 [(0, .ref 1), (1, .int x1), (2, .int x2), (3, .int x3), (4, .int x4), (5, .int (x5 + 1))] [] h (kI K)) ∧ (¬ x3 < (h_i h 234 (((20 * x1) + x5) : Int32).toNatClampNeg) → vp_in ((20 * x1) + x5) 40 ∧ ((x2 < (h_i h 233 (((20 * x1) + x5) : Int32).toNatClampNeg) → AW (m_X12_forceOf (d + 0) 0 0) 0 0 6 [(0, .ref 1), (1, .int x1), (2, .int x2), (3, .int x3), (4, .int x4), (5, .int (x5 + 1))] [] h (kI K)) ∧ (¬ x2 < (h_i h 233 (((20 * x1) + x5) : Int32).toNatClampNeg) → (x4 = (-1) → AW (m_X12_forceOf (d + 0) 0 0) 0 0 6 [(0, .ref 1), (1, .int x1), (2, .int x2), (3, .int x3), (4, .int x5), (5, .int (x5 + 1))] [] h (kI K)) ∧ (¬ x4 = (-1) → vp_in ((20 * x1) + x5) 40 ∧ (vp_in ((20 * x1) + x4) 40 ∧ (((h_i h 233 (((20 * x1) + x5) : Int32).toNatClampNeg) < (h_i h 233 (((20 * x1) + x4) : Int32).toNatClampNeg) → AW (m_X12_forceOf (d + 0) 0 0) 0 0 6 [(0, .ref 1), (1, .int x1), (2, .int x2), (3, .int x3), (4, .int x4), (5, .int (x5 + 1))] [] h (kI K)) ∧ (¬ (h_i h 233 (((20 * x1) + x5) : Int32).toNatClampNeg) < (h_i h 233 (((20 * x1) + x4) : Int32).toNatClampNeg) → AW (m_X12_forceOf (d + 0) 0 0) 0 0 6 [(0, .ref 1), (1, .int x1), (2, .int x2), (3, .int x3), (4, .int x5), (5, .int (x5 + 1))] [] h (kI K)))))))))))) : AW (m_X12_forceOf (d + 0) 0 0) 0 0 6 [(0, .ref 1), (1, .int x1), (2, .int x2), (3, .int x3), (4, .int x4), (5, .int x5)] [] h (kI K) := by
  refine aw_iload d_X12_forceOf_6 5 rfl ?_
  refine aw_aload_n (i := 0) rfl d_X12_forceOf_8 0 rfl ?_
  refine aw_getr (k0 := 49) kc_12 (ws_1 w) (Nat.le_of_ble_eq_true rfl) tw_1791 d_X12_forceOf_9 rfl (wr_1_49 w) ?_
  refine aw_iload_n (i := 1) rfl d_X12_forceOf_12 1 rfl ?_
  obtain ⟨b1, k⟩ := k
  refine aw_iald (ws_235 w) b1 d_X12_forceOf_13 ?_
  refine aw_icmp_ge (tgt := 86) d_X12_forceOf_14 rfl (fun c2 => ?_) (fun c2 => ?_)
  · have k := k.1 c2
    refine aw_iload d_X12_forceOf_86 4 rfl ?_
    exact aw_iret rfl d_X12_forceOf_88 ⟨Nat.le_refl _, Nat.le_refl _⟩ ⟨_, rfl, k⟩
  · have k := k.2 c2
    refine aw_bipush (v := 20) d_X12_forceOf_17 ib_20 ?_
    refine aw_iload_n (i := 1) rfl d_X12_forceOf_19 1 rfl ?_
    refine aw_imul d_X12_forceOf_20 ?_
    refine aw_iload d_X12_forceOf_21 5 rfl ?_
    refine aw_iadd d_X12_forceOf_23 ?_
    refine aw_istore [(0, .ref 1), (1, .int x1), (2, .int x2), (3, .int x3), (4, .int x4), (5, .int x5), (6, .int ((20 * x1) + x5))] d_X12_forceOf_24 (Nat.le_of_ble_eq_true rfl) rfl rfl ?_
    refine aw_aload_n (i := 0) rfl d_X12_forceOf_26 0 rfl ?_
    refine aw_getr (k0 := 48) kc_12 (ws_1 w) (Nat.le_of_ble_eq_true rfl) tw_1790 d_X12_forceOf_27 rfl (wr_1_48 w) ?_
    refine aw_iload d_X12_forceOf_30 6 rfl ?_
    obtain ⟨b3, k⟩ := k
    refine aw_iald (ws_234 w) b3 d_X12_forceOf_32 ?_
    refine aw_iload_n (i := 3) rfl d_X12_forceOf_33 3 rfl ?_
    refine aw_icmp_gt (tgt := 80) d_X12_forceOf_34 rfl (fun c4 => ?_) (fun c4 => ?_)
    · have k := k.1 c4
      refine aw_iinc (v := (x5 + 1)) [(0, .ref 1), (1, .int x1), (2, .int x2), (3, .int x3), (4, .int x4), (5, .int (x5 + 1)), (6, .int ((20 * x1) + x5))] d_X12_forceOf_80 5 rfl rfl (Nat.le_of_ble_eq_true rfl) rfl rfl ?_
      refine aw_goto (tgt := 6) d_X12_forceOf_83 rfl ?_
      exact aw_lvp [0, 1, 2, 3, 4, 5] [(0, .ref 1), (1, .int x1), (2, .int x2), (3, .int x3), (4, .int x4), (5, .int (x5 + 1))] rfl k
    · have k := k.2 c4
      refine aw_aload_n (i := 0) rfl d_X12_forceOf_37 0 rfl ?_
      refine aw_getr (k0 := 47) kc_12 (ws_1 w) (Nat.le_of_ble_eq_true rfl) tw_1789 d_X12_forceOf_38 rfl (wr_1_47 w) ?_
      refine aw_iload d_X12_forceOf_41 6 rfl ?_
      obtain ⟨b5, k⟩ := k
      refine aw_iald (ws_233 w) b5 d_X12_forceOf_43 ?_
      refine aw_iload_n (i := 2) rfl d_X12_forceOf_44 2 rfl ?_
      refine aw_icmp_gt (tgt := 80) d_X12_forceOf_45 rfl (fun c6 => ?_) (fun c6 => ?_)
      · have k := k.1 c6
        refine aw_iinc (v := (x5 + 1)) [(0, .ref 1), (1, .int x1), (2, .int x2), (3, .int x3), (4, .int x4), (5, .int (x5 + 1)), (6, .int ((20 * x1) + x5))] d_X12_forceOf_80 5 rfl rfl (Nat.le_of_ble_eq_true rfl) rfl rfl ?_
        refine aw_goto (tgt := 6) d_X12_forceOf_83 rfl ?_
        exact aw_lvp [0, 1, 2, 3, 4, 5] [(0, .ref 1), (1, .int x1), (2, .int x2), (3, .int x3), (4, .int x4), (5, .int (x5 + 1))] rfl k
      · have k := k.2 c6
        refine aw_iload d_X12_forceOf_48 4 rfl ?_
        refine aw_iconst (v := (-1)) d_X12_forceOf_50 ic_m1 ?_
        refine aw_icmp_eq (tgt := 76) d_X12_forceOf_51 rfl (fun c7 => ?_) (fun c7 => ?_)
        · have k := k.1 c7
          refine aw_iload d_X12_forceOf_76 5 rfl ?_
          refine aw_istore [(0, .ref 1), (1, .int x1), (2, .int x2), (3, .int x3), (4, .int x5), (5, .int x5), (6, .int ((20 * x1) + x5))] d_X12_forceOf_78 (Nat.le_of_ble_eq_true rfl) rfl rfl ?_
          refine aw_iinc (v := (x5 + 1)) [(0, .ref 1), (1, .int x1), (2, .int x2), (3, .int x3), (4, .int x5), (5, .int (x5 + 1)), (6, .int ((20 * x1) + x5))] d_X12_forceOf_80 5 rfl rfl (Nat.le_of_ble_eq_true rfl) rfl rfl ?_
          refine aw_goto (tgt := 6) d_X12_forceOf_83 rfl ?_
          exact aw_lvp [0, 1, 2, 3, 4, 5] [(0, .ref 1), (1, .int x1), (2, .int x2), (3, .int x3), (4, .int x5), (5, .int (x5 + 1))] rfl k
        · have k := k.2 c7
          refine aw_aload_n (i := 0) rfl d_X12_forceOf_54 0 rfl ?_
          refine aw_getr (k0 := 47) kc_12 (ws_1 w) (Nat.le_of_ble_eq_true rfl) tw_1789 d_X12_forceOf_55 rfl (wr_1_47 w) ?_
          refine aw_iload d_X12_forceOf_58 6 rfl ?_
          obtain ⟨b8, k⟩ := k
          refine aw_iald (ws_233 w) b8 d_X12_forceOf_60 ?_
          refine aw_aload_n (i := 0) rfl d_X12_forceOf_61 0 rfl ?_
          refine aw_getr (k0 := 47) kc_12 (ws_1 w) (Nat.le_of_ble_eq_true rfl) tw_1789 d_X12_forceOf_62 rfl (wr_1_47 w) ?_
          refine aw_bipush (v := 20) d_X12_forceOf_65 ib_20 ?_
          refine aw_iload_n (i := 1) rfl d_X12_forceOf_67 1 rfl ?_
          refine aw_imul d_X12_forceOf_68 ?_
          refine aw_iload d_X12_forceOf_69 4 rfl ?_
          refine aw_iadd d_X12_forceOf_71 ?_
          obtain ⟨b9, k⟩ := k
          refine aw_iald (ws_233 w) b9 d_X12_forceOf_72 ?_
          refine aw_icmp_lt (tgt := 80) d_X12_forceOf_73 rfl (fun c10 => ?_) (fun c10 => ?_)
          · have k := k.1 c10
            refine aw_iinc (v := (x5 + 1)) [(0, .ref 1), (1, .int x1), (2, .int x2), (3, .int x3), (4, .int x4), (5, .int (x5 + 1)), (6, .int ((20 * x1) + x5))] d_X12_forceOf_80 5 rfl rfl (Nat.le_of_ble_eq_true rfl) rfl rfl ?_
            refine aw_goto (tgt := 6) d_X12_forceOf_83 rfl ?_
            exact aw_lvp [0, 1, 2, 3, 4, 5] [(0, .ref 1), (1, .int x1), (2, .int x2), (3, .int x3), (4, .int x4), (5, .int (x5 + 1))] rfl k
          · have k := k.2 c10
            refine aw_iload d_X12_forceOf_76 5 rfl ?_
            refine aw_istore [(0, .ref 1), (1, .int x1), (2, .int x2), (3, .int x3), (4, .int x5), (5, .int x5), (6, .int ((20 * x1) + x5))] d_X12_forceOf_78 (Nat.le_of_ble_eq_true rfl) rfl rfl ?_
            refine aw_iinc (v := (x5 + 1)) [(0, .ref 1), (1, .int x1), (2, .int x2), (3, .int x3), (4, .int x5), (5, .int (x5 + 1)), (6, .int ((20 * x1) + x5))] d_X12_forceOf_80 5 rfl rfl (Nat.le_of_ble_eq_true rfl) rfl rfl ?_
            refine aw_goto (tgt := 6) d_X12_forceOf_83 rfl ?_
            exact aw_lvp [0, 1, 2, 3, 4, 5] [(0, .ref 1), (1, .int x1), (2, .int x2), (3, .int x3), (4, .int x5), (5, .int (x5 + 1))] rfl k
theorem t_X12_miss (d : Nat) (h : Hp_) (w : Wf h) (x1 : Int32) (x2 : Int32) (K : Hp_ → Prop) (k : vp_in x1 400 ∧ (vp_in x1 400 ∧ (K (h_im (h_im h 242 x1.toNatClampNeg (h_i h 1 0)) 243 x1.toNatClampNeg x2)))) : Cv (m_X12_miss (d + 0) 0 0) [.ref 1, .int x1, .int x2] h K := by
  refine Ct.of (fun _ _ _ => trivial) rfl (Nat.le_of_ble_eq_true rfl) ?_
  show AW (m_X12_miss (d + 0) 0 0) 0 0 0 [(0, .ref 1), (1, .int x1), (2, .int x2)] [] h (kV K)
  refine aw_aload_n (i := 0) rfl d_X12_miss_0 0 rfl ?_
  refine aw_getr (k0 := 57) kc_12 (ws_1 w) (Nat.le_of_ble_eq_true rfl) tw_1799 d_X12_miss_1 rfl (wr_1_57 w) ?_
  refine aw_iload_n (i := 1) rfl d_X12_miss_4 1 rfl ?_
  refine aw_aload_n (i := 0) rfl d_X12_miss_5 0 rfl ?_
  refine aw_geti (k0 := 0) kc_12 (ws_1 w) (Nat.le_of_ble_eq_true rfl) tw_1742 d_X12_miss_6 rfl ?_
  obtain ⟨b1, k⟩ := k
  refine aw_iast (ws_242 w) b1 d_X12_miss_9 ?_
  refine aw_aload_n (i := 0) rfl d_X12_miss_10 0 rfl ?_
  refine aw_getr (k0 := 58) kc_12 (ws_1 w) (Nat.le_of_ble_eq_true rfl) tw_1800 d_X12_miss_11 rfl (wr_1_58 w) ?_
  refine aw_iload_n (i := 1) rfl d_X12_miss_14 1 rfl ?_
  refine aw_iload_n (i := 2) rfl d_X12_miss_15 2 rfl ?_
  obtain ⟨b2, k⟩ := k
  refine aw_iast (ws_243 w) b2 d_X12_miss_16 ?_
  exact aw_vret rfl d_X12_miss_17 ⟨Nat.le_refl _, Nat.le_refl _⟩ ⟨rfl, k⟩
theorem t_X12_stateOf (d : Nat) (h : Hp_) (w : Wf h) (x1 : Int32) (x2 : Int32) (K : Int32 → Hp_ → Prop) (k : vp_in x1 400 ∧ (((h_i h 241 x1.toNatClampNeg) = (-1) → vp_in x1 400 ∧ (((h_i h 242 x1.toNatClampNeg) = (-1) → K 0 h) ∧ (¬ (h_i h 242 x1.toNatClampNeg) = (-1) → vp_in x1 400 ∧ ((x2 < (h_i h 242 x1.toNatClampNeg) → K 0 h) ∧ (¬ x2 < (h_i h 242 x1.toNatClampNeg) → K 2 h))))) ∧ (¬ (h_i h 241 x1.toNatClampNeg) = (-1) → vp_in x1 400 ∧ ((x2 < (h_i h 241 x1.toNatClampNeg) → vp_in x1 400 ∧ (((h_i h 242 x1.toNatClampNeg) = (-1) → K 0 h) ∧ (¬ (h_i h 242 x1.toNatClampNeg) = (-1) → vp_in x1 400 ∧ ((x2 < (h_i h 242 x1.toNatClampNeg) → K 0 h) ∧ (¬ x2 < (h_i h 242 x1.toNatClampNeg) → K 2 h))))) ∧ (¬ x2 < (h_i h 241 x1.toNatClampNeg) → K 1 h))))) : Ci (m_X12_stateOf (d + 0) 0 0) [.ref 1, .int x1, .int x2] h K := by
  refine Ct.of (fun _ _ _ => trivial) rfl (Nat.le_of_ble_eq_true rfl) ?_
  show AW (m_X12_stateOf (d + 0) 0 0) 0 0 0 [(0, .ref 1), (1, .int x1), (2, .int x2)] [] h (kI K)
  refine aw_aload_n (i := 0) rfl d_X12_stateOf_0 0 rfl ?_
  refine aw_getr (k0 := 56) kc_12 (ws_1 w) (Nat.le_of_ble_eq_true rfl) tw_1798 d_X12_stateOf_1 rfl (wr_1_56 w) ?_
  refine aw_iload_n (i := 1) rfl d_X12_stateOf_4 1 rfl ?_
  obtain ⟨b1, k⟩ := k
  refine aw_iald (ws_241 w) b1 d_X12_stateOf_5 ?_
  refine aw_iconst (v := (-1)) d_X12_stateOf_6 ic_m1 ?_
  refine aw_icmp_eq (tgt := 22) d_X12_stateOf_7 rfl (fun c2 => ?_) (fun c2 => ?_)
  · have k := k.1 c2
    refine aw_aload_n (i := 0) rfl d_X12_stateOf_22 0 rfl ?_
    refine aw_getr (k0 := 57) kc_12 (ws_1 w) (Nat.le_of_ble_eq_true rfl) tw_1799 d_X12_stateOf_23 rfl (wr_1_57 w) ?_
    refine aw_iload_n (i := 1) rfl d_X12_stateOf_26 1 rfl ?_
    obtain ⟨b3, k⟩ := k
    refine aw_iald (ws_242 w) b3 d_X12_stateOf_27 ?_
    refine aw_iconst (v := (-1)) d_X12_stateOf_28 ic_m1 ?_
    refine aw_icmp_eq (tgt := 46) d_X12_stateOf_29 rfl (fun c4 => ?_) (fun c4 => ?_)
    · have k := k.1 c4
      refine aw_iconst (v := 0) d_X12_stateOf_46 ic_0 ?_
      exact aw_iret rfl d_X12_stateOf_47 ⟨Nat.le_refl _, Nat.le_refl _⟩ ⟨_, rfl, k⟩
    · have k := k.2 c4
      refine aw_aload_n (i := 0) rfl d_X12_stateOf_32 0 rfl ?_
      refine aw_getr (k0 := 57) kc_12 (ws_1 w) (Nat.le_of_ble_eq_true rfl) tw_1799 d_X12_stateOf_33 rfl (wr_1_57 w) ?_
      refine aw_iload_n (i := 1) rfl d_X12_stateOf_36 1 rfl ?_
      obtain ⟨b5, k⟩ := k
      refine aw_iald (ws_242 w) b5 d_X12_stateOf_37 ?_
      refine aw_iload_n (i := 2) rfl d_X12_stateOf_38 2 rfl ?_
      refine aw_icmp_gt (tgt := 46) d_X12_stateOf_39 rfl (fun c6 => ?_) (fun c6 => ?_)
      · have k := k.1 c6
        refine aw_iconst (v := 0) d_X12_stateOf_46 ic_0 ?_
        exact aw_iret rfl d_X12_stateOf_47 ⟨Nat.le_refl _, Nat.le_refl _⟩ ⟨_, rfl, k⟩
      · have k := k.2 c6
        refine aw_iconst (v := 2) d_X12_stateOf_42 ic_2 ?_
        refine aw_goto (tgt := 47) d_X12_stateOf_43 rfl ?_
        exact aw_iret rfl d_X12_stateOf_47 ⟨Nat.le_refl _, Nat.le_refl _⟩ ⟨_, rfl, k⟩
  · have k := k.2 c2
    refine aw_aload_n (i := 0) rfl d_X12_stateOf_10 0 rfl ?_
    refine aw_getr (k0 := 56) kc_12 (ws_1 w) (Nat.le_of_ble_eq_true rfl) tw_1798 d_X12_stateOf_11 rfl (wr_1_56 w) ?_
    refine aw_iload_n (i := 1) rfl d_X12_stateOf_14 1 rfl ?_
    obtain ⟨b7, k⟩ := k
    refine aw_iald (ws_241 w) b7 d_X12_stateOf_15 ?_
    refine aw_iload_n (i := 2) rfl d_X12_stateOf_16 2 rfl ?_
    refine aw_icmp_gt (tgt := 22) d_X12_stateOf_17 rfl (fun c8 => ?_) (fun c8 => ?_)
    · have k := k.1 c8
      refine aw_aload_n (i := 0) rfl d_X12_stateOf_22 0 rfl ?_
      refine aw_getr (k0 := 57) kc_12 (ws_1 w) (Nat.le_of_ble_eq_true rfl) tw_1799 d_X12_stateOf_23 rfl (wr_1_57 w) ?_
      refine aw_iload_n (i := 1) rfl d_X12_stateOf_26 1 rfl ?_
      obtain ⟨b9, k⟩ := k
      refine aw_iald (ws_242 w) b9 d_X12_stateOf_27 ?_
      refine aw_iconst (v := (-1)) d_X12_stateOf_28 ic_m1 ?_
      refine aw_icmp_eq (tgt := 46) d_X12_stateOf_29 rfl (fun c10 => ?_) (fun c10 => ?_)
      · have k := k.1 c10
        refine aw_iconst (v := 0) d_X12_stateOf_46 ic_0 ?_
        exact aw_iret rfl d_X12_stateOf_47 ⟨Nat.le_refl _, Nat.le_refl _⟩ ⟨_, rfl, k⟩
      · have k := k.2 c10
        refine aw_aload_n (i := 0) rfl d_X12_stateOf_32 0 rfl ?_
        refine aw_getr (k0 := 57) kc_12 (ws_1 w) (Nat.le_of_ble_eq_true rfl) tw_1799 d_X12_stateOf_33 rfl (wr_1_57 w) ?_
        refine aw_iload_n (i := 1) rfl d_X12_stateOf_36 1 rfl ?_
        obtain ⟨b11, k⟩ := k
        refine aw_iald (ws_242 w) b11 d_X12_stateOf_37 ?_
        refine aw_iload_n (i := 2) rfl d_X12_stateOf_38 2 rfl ?_
        refine aw_icmp_gt (tgt := 46) d_X12_stateOf_39 rfl (fun c12 => ?_) (fun c12 => ?_)
        · have k := k.1 c12
          refine aw_iconst (v := 0) d_X12_stateOf_46 ic_0 ?_
          exact aw_iret rfl d_X12_stateOf_47 ⟨Nat.le_refl _, Nat.le_refl _⟩ ⟨_, rfl, k⟩
        · have k := k.2 c12
          refine aw_iconst (v := 2) d_X12_stateOf_42 ic_2 ?_
          refine aw_goto (tgt := 47) d_X12_stateOf_43 rfl ?_
          exact aw_iret rfl d_X12_stateOf_47 ⟨Nat.le_refl _, Nat.le_refl _⟩ ⟨_, rfl, k⟩
    · have k := k.2 c8
      refine aw_iconst (v := 1) d_X12_stateOf_20 ic_1 ?_
      exact aw_iret rfl d_X12_stateOf_21 ⟨Nat.le_refl _, Nat.le_refl _⟩ ⟨_, rfl, k⟩
theorem t_X12_causeOf (d : Nat) (h : Hp_) (w : Wf h) (x1 : Int32) (x2 : Int32) (K : Int32 → Hp_ → Prop) (k : vp_in x1 400 ∧ (AW (m_X12_causeOf (d + 0) 0 0) 0 0 10 [(0, .ref 1), (1, .int x1), (2, .int x2), (3, .int (h_i h 243 x1.toNatClampNeg)), (4, .int 0)] [] h (kI K))) : Ci (m_X12_causeOf (d + 0) 0 0) [.ref 1, .int x1, .int x2] h K := by
  refine Ct.of (fun _ _ _ => trivial) rfl (Nat.le_of_ble_eq_true rfl) ?_
  show AW (m_X12_causeOf (d + 0) 0 0) 0 0 0 [(0, .ref 1), (1, .int x1), (2, .int x2)] [] h (kI K)
  refine aw_aload_n (i := 0) rfl d_X12_causeOf_0 0 rfl ?_
  refine aw_getr (k0 := 58) kc_12 (ws_1 w) (Nat.le_of_ble_eq_true rfl) tw_1800 d_X12_causeOf_1 rfl (wr_1_58 w) ?_
  refine aw_iload_n (i := 1) rfl d_X12_causeOf_4 1 rfl ?_
  obtain ⟨b1, k⟩ := k
  refine aw_iald (ws_243 w) b1 d_X12_causeOf_5 ?_
  refine aw_istore_n (i := 3) rfl [(0, .ref 1), (1, .int x1), (2, .int x2), (3, .int (h_i h 243 x1.toNatClampNeg))] d_X12_causeOf_6 (Nat.le_of_ble_eq_true rfl) rfl rfl ?_
  refine aw_iconst (v := 0) d_X12_causeOf_7 ic_0 ?_
  refine aw_istore [(0, .ref 1), (1, .int x1), (2, .int x2), (3, .int (h_i h 243 x1.toNatClampNeg)), (4, .int 0)] d_X12_causeOf_8 (Nat.le_of_ble_eq_true rfl) rfl rfl ?_
  exact k
theorem t_X12_causeOf_10 (d : Nat) (h : Hp_) (w : Wf h) (x1 : Int32) (x2 : Int32) (x3 : Int32) (x4 : Int32) (K : Int32 → Hp_ → Prop) (k : ((h_i h 1 64) ≤ x4 → K x3 h) ∧ (¬ (h_i h 1 64) ≤ x4 → vp_in x4 200 ∧ ((¬ (h_i h 245 x4.toNatClampNeg) = x1 → AW (m_X12_causeOf (d + 0) 0 0) 0 0 10 [(0, .ref 1), (1, .int x1), (2, .int x2), (3, .int x3), (4, .int (x4 + 1))] [] h (kI K)) ∧ ((h_i h 245 x4.toNatClampNeg) = x1 → vp_in x4 200 ∧ ((x2 < (h_i h 247 x4.toNatClampNeg) → AW (m_X12_causeOf (d + 0) 0 0) 0 0 10 [(0, .ref 1), (1, .int x1), (2, .int x2), (3, .int x3), (4, .int (x4 + 1))] [] h (kI K)) ∧ (¬ x2 < (h_i h 247 x4.toNatClampNeg) → vp_in x4 200 ∧ (AW (m_X12_causeOf (d + 0) 0 0) 0 0 10 [(0, .ref 1), (1, .int x1), (2, .int x2), (3, .int (h_i h 246 x4.toNatClampNeg)), (4, .int (x4 + 1))] [] h (kI K)))))))) : AW (m_X12_causeOf (d + 0) 0 0) 0 0 10 [(0, .ref 1), (1, .int x1), (2, .int x2), (3, .int x3), (4, .int x4)] [] h (kI K) := by
  refine aw_iload d_X12_causeOf_10 4 rfl ?_
  refine aw_aload_n (i := 0) rfl d_X12_causeOf_12 0 rfl ?_
  refine aw_geti (k0 := 64) kc_12 (ws_1 w) (Nat.le_of_ble_eq_true rfl) tw_1806 d_X12_causeOf_13 rfl ?_
  refine aw_icmp_ge (tgt := 55) d_X12_causeOf_16 rfl (fun c2 => ?_) (fun c2 => ?_)
  · have k := k.1 c2
    refine aw_iload_n (i := 3) rfl d_X12_causeOf_55 3 rfl ?_
    exact aw_iret rfl d_X12_causeOf_56 ⟨Nat.le_refl _, Nat.le_refl _⟩ ⟨_, rfl, k⟩
  · have k := k.2 c2
    refine aw_aload_n (i := 0) rfl d_X12_causeOf_19 0 rfl ?_
    refine aw_getr (k0 := 60) kc_12 (ws_1 w) (Nat.le_of_ble_eq_true rfl) tw_1802 d_X12_causeOf_20 rfl (wr_1_60 w) ?_
    refine aw_iload d_X12_causeOf_23 4 rfl ?_
    obtain ⟨b3, k⟩ := k
    refine aw_iald (ws_245 w) b3 d_X12_causeOf_25 ?_
    refine aw_iload_n (i := 1) rfl d_X12_causeOf_26 1 rfl ?_
    refine aw_icmp_ne (tgt := 49) d_X12_causeOf_27 rfl (fun c4 => ?_) (fun c4 => ?_)
    · have k := k.1 c4
      refine aw_iinc (v := (x4 + 1)) [(0, .ref 1), (1, .int x1), (2, .int x2), (3, .int x3), (4, .int (x4 + 1))] d_X12_causeOf_49 4 rfl rfl (Nat.le_of_ble_eq_true rfl) rfl rfl ?_
      refine aw_goto (tgt := 10) d_X12_causeOf_52 rfl ?_
      exact k
    · have k := k.2 c4
      refine aw_aload_n (i := 0) rfl d_X12_causeOf_30 0 rfl ?_
      refine aw_getr (k0 := 62) kc_12 (ws_1 w) (Nat.le_of_ble_eq_true rfl) tw_1804 d_X12_causeOf_31 rfl (wr_1_62 w) ?_
      refine aw_iload d_X12_causeOf_34 4 rfl ?_
      obtain ⟨b5, k⟩ := k
      refine aw_iald (ws_247 w) b5 d_X12_causeOf_36 ?_
      refine aw_iload_n (i := 2) rfl d_X12_causeOf_37 2 rfl ?_
      refine aw_icmp_gt (tgt := 49) d_X12_causeOf_38 rfl (fun c6 => ?_) (fun c6 => ?_)
      · have k := k.1 c6
        refine aw_iinc (v := (x4 + 1)) [(0, .ref 1), (1, .int x1), (2, .int x2), (3, .int x3), (4, .int (x4 + 1))] d_X12_causeOf_49 4 rfl rfl (Nat.le_of_ble_eq_true rfl) rfl rfl ?_
        refine aw_goto (tgt := 10) d_X12_causeOf_52 rfl ?_
        exact k
      · have k := k.2 c6
        refine aw_aload_n (i := 0) rfl d_X12_causeOf_41 0 rfl ?_
        refine aw_getr (k0 := 61) kc_12 (ws_1 w) (Nat.le_of_ble_eq_true rfl) tw_1803 d_X12_causeOf_42 rfl (wr_1_61 w) ?_
        refine aw_iload d_X12_causeOf_45 4 rfl ?_
        obtain ⟨b7, k⟩ := k
        refine aw_iald (ws_246 w) b7 d_X12_causeOf_47 ?_
        refine aw_istore_n (i := 3) rfl [(0, .ref 1), (1, .int x1), (2, .int x2), (3, .int (h_i h 246 x4.toNatClampNeg)), (4, .int x4)] d_X12_causeOf_48 (Nat.le_of_ble_eq_true rfl) rfl rfl ?_
        refine aw_iinc (v := (x4 + 1)) [(0, .ref 1), (1, .int x1), (2, .int x2), (3, .int (h_i h 246 x4.toNatClampNeg)), (4, .int (x4 + 1))] d_X12_causeOf_49 4 rfl rfl (Nat.le_of_ble_eq_true rfl) rfl rfl ?_
        refine aw_goto (tgt := 10) d_X12_causeOf_52 rfl ?_
        exact k
theorem t_X12_free (d : Nat) (h : Hp_) (w : Wf h) (x1 : Int32) (K : Hp_ → Prop) (k : vp_in x1 12 ∧ (vp_in x1 12 ∧ (vp_in x1 12 ∧ (vp_in x1 12 ∧ (vp_in x1 12 ∧ (vp_in x1 12 ∧ (AW (m_X12_free (d + 0) 0 0) 0 0 42 [(0, .ref 1), (1, .int x1), (2, .int 0)] [] (h_im (h_im (h_im (h_im (h_im h 208 x1.toNatClampNeg 0) 209 x1.toNatClampNeg (h_i h 206 x1.toNatClampNeg)) 210 x1.toNatClampNeg (-1)) 211 x1.toNatClampNeg (-1)) 213 x1.toNatClampNeg (-1)) (kV K)))))))) : Cv (m_X12_free (d + 0) 0 0) [.ref 1, .int x1] h K := by
  refine Ct.of (fun _ _ _ => trivial) rfl (Nat.le_of_ble_eq_true rfl) ?_
  show AW (m_X12_free (d + 0) 0 0) 0 0 0 [(0, .ref 1), (1, .int x1)] [] h (kV K)
  refine aw_aload_n (i := 0) rfl d_X12_free_0 0 rfl ?_
  refine aw_getr (k0 := 12) kc_12 (ws_1 w) (Nat.le_of_ble_eq_true rfl) tw_1754 d_X12_free_1 rfl (wr_1_12 w) ?_
  refine aw_iload_n (i := 1) rfl d_X12_free_4 1 rfl ?_
  refine aw_iconst (v := 0) d_X12_free_5 ic_0 ?_
  obtain ⟨b1, k⟩ := k
  refine aw_iast (ws_208 w) b1 d_X12_free_6 ?_
  refine aw_aload_n (i := 0) rfl d_X12_free_7 0 rfl ?_
  refine aw_getr (k0 := 13) kc_12 (ws_1 w) (Nat.le_of_ble_eq_true rfl) tw_1755 d_X12_free_8 rfl (wr_1_13 w) ?_
  refine aw_iload_n (i := 1) rfl d_X12_free_11 1 rfl ?_
  refine aw_aload_n (i := 0) rfl d_X12_free_12 0 rfl ?_
  refine aw_getr (k0 := 10) kc_12 (ws_1 w) (Nat.le_of_ble_eq_true rfl) tw_1752 d_X12_free_13 rfl (wr_1_10 w) ?_
  refine aw_iload_n (i := 1) rfl d_X12_free_16 1 rfl ?_
  obtain ⟨b2, k⟩ := k
  refine aw_iald (ws_206 w) b2 d_X12_free_17 ?_
  refine aw_vi (v2 := (h_i h 206 x1.toNatClampNeg)) (rfl) ?_
  obtain ⟨b3, k⟩ := k
  refine aw_iast (ws_209 w) b3 d_X12_free_18 ?_
  refine aw_aload_n (i := 0) rfl d_X12_free_19 0 rfl ?_
  refine aw_getr (k0 := 14) kc_12 (ws_1 w) (Nat.le_of_ble_eq_true rfl) tw_1756 d_X12_free_20 rfl (wr_1_14 w) ?_
  refine aw_iload_n (i := 1) rfl d_X12_free_23 1 rfl ?_
  refine aw_iconst (v := (-1)) d_X12_free_24 ic_m1 ?_
  obtain ⟨b4, k⟩ := k
  refine aw_iast (ws_210 w) b4 d_X12_free_25 ?_
  refine aw_aload_n (i := 0) rfl d_X12_free_26 0 rfl ?_
  refine aw_getr (k0 := 15) kc_12 (ws_1 w) (Nat.le_of_ble_eq_true rfl) tw_1757 d_X12_free_27 rfl (wr_1_15 w) ?_
  refine aw_iload_n (i := 1) rfl d_X12_free_30 1 rfl ?_
  refine aw_iconst (v := (-1)) d_X12_free_31 ic_m1 ?_
  obtain ⟨b5, k⟩ := k
  refine aw_iast (ws_211 w) b5 d_X12_free_32 ?_
  refine aw_aload_n (i := 0) rfl d_X12_free_33 0 rfl ?_
  refine aw_getr (k0 := 17) kc_12 (ws_1 w) (Nat.le_of_ble_eq_true rfl) tw_1759 d_X12_free_34 rfl (wr_1_17 w) ?_
  refine aw_iload_n (i := 1) rfl d_X12_free_37 1 rfl ?_
  refine aw_iconst (v := (-1)) d_X12_free_38 ic_m1 ?_
  obtain ⟨b6, k⟩ := k
  refine aw_iast (ws_213 w) b6 d_X12_free_39 ?_
  refine aw_iconst (v := 0) d_X12_free_40 ic_0 ?_
  refine aw_istore_n (i := 2) rfl [(0, .ref 1), (1, .int x1), (2, .int 0)] d_X12_free_41 (Nat.le_of_ble_eq_true rfl) rfl rfl ?_
  exact k
theorem t_X12_free_42 (d : Nat) (h : Hp_) (w : Wf h) (x1 : Int32) (x2 : Int32) (K : Hp_ → Prop) (k : ((h_i h 1 80) ≤ x2 → K h) ∧ (¬ (h_i h 1 80) ≤ x2 → vp_in x2 300 ∧ ((¬ (h_i h 255 x2.toNatClampNeg) = x1 → AW (m_X12_free (d + 0) 0 0) 0 0 42 [(0, .ref 1), (1, .int x1), (2, .int (x2 + 1))] [] h (kV K)) ∧ ((h_i h 255 x2.toNatClampNeg) = x1 → vp_in x2 300 ∧ ((¬ (h_i h 258 x2.toNatClampNeg) = 1 → AW (m_X12_free (d + 0) 0 0) 0 0 42 [(0, .ref 1), (1, .int x1), (2, .int (x2 + 1))] [] h (kV K)) ∧ ((h_i h 258 x2.toNatClampNeg) = 1 → vp_in x2 300 ∧ ((¬ (h_i h 260 x2.toNatClampNeg) = (-1) → AW (m_X12_free (d + 0) 0 0) 0 0 42 [(0, .ref 1), (1, .int x1), (2, .int (x2 + 1))] [] h (kV K)) ∧ ((h_i h 260 x2.toNatClampNeg) = (-1) → vp_in x2 300 ∧ (AW (m_X12_free (d + 0) 0 0) 0 0 42 [(0, .ref 1), (1, .int x1), (2, .int (x2 + 1))] [] (h_im h 260 x2.toNatClampNeg (h_i h 1 0)) (kV K)))))))))) : AW (m_X12_free (d + 0) 0 0) 0 0 42 [(0, .ref 1), (1, .int x1), (2, .int x2)] [] h (kV K) := by
  refine aw_iload_n (i := 2) rfl d_X12_free_42 2 rfl ?_
  refine aw_aload_n (i := 0) rfl d_X12_free_43 0 rfl ?_
  refine aw_geti (k0 := 80) kc_12 (ws_1 w) (Nat.le_of_ble_eq_true rfl) tw_1822 d_X12_free_44 rfl ?_
  refine aw_icmp_ge (tgt := 96) d_X12_free_47 rfl (fun c7 => ?_) (fun c7 => ?_)
  · have k := k.1 c7
    exact aw_vret rfl d_X12_free_96 ⟨Nat.le_refl _, Nat.le_refl _⟩ ⟨rfl, k⟩
  · have k := k.2 c7
    refine aw_aload_n (i := 0) rfl d_X12_free_50 0 rfl ?_
    refine aw_getr (k0 := 72) kc_12 (ws_1 w) (Nat.le_of_ble_eq_true rfl) tw_1814 d_X12_free_51 rfl (wr_1_72 w) ?_
    refine aw_iload_n (i := 2) rfl d_X12_free_54 2 rfl ?_
    obtain ⟨b8, k⟩ := k
    refine aw_iald (ws_255 w) b8 d_X12_free_55 ?_
    refine aw_iload_n (i := 1) rfl d_X12_free_56 1 rfl ?_
    refine aw_icmp_ne (tgt := 90) d_X12_free_57 rfl (fun c9 => ?_) (fun c9 => ?_)
    · have k := k.1 c9
      refine aw_iinc (v := (x2 + 1)) [(0, .ref 1), (1, .int x1), (2, .int (x2 + 1))] d_X12_free_90 2 rfl rfl (Nat.le_of_ble_eq_true rfl) rfl rfl ?_
      refine aw_goto (tgt := 42) d_X12_free_93 rfl ?_
      exact k
    · have k := k.2 c9
      refine aw_aload_n (i := 0) rfl d_X12_free_60 0 rfl ?_
      refine aw_getr (k0 := 75) kc_12 (ws_1 w) (Nat.le_of_ble_eq_true rfl) tw_1817 d_X12_free_61 rfl (wr_1_75 w) ?_
      refine aw_iload_n (i := 2) rfl d_X12_free_64 2 rfl ?_
      obtain ⟨b10, k⟩ := k
      refine aw_iald (ws_258 w) b10 d_X12_free_65 ?_
      refine aw_iconst (v := 1) d_X12_free_66 ic_1 ?_
      refine aw_icmp_ne (tgt := 90) d_X12_free_67 rfl (fun c11 => ?_) (fun c11 => ?_)
      · have k := k.1 c11
        refine aw_iinc (v := (x2 + 1)) [(0, .ref 1), (1, .int x1), (2, .int (x2 + 1))] d_X12_free_90 2 rfl rfl (Nat.le_of_ble_eq_true rfl) rfl rfl ?_
        refine aw_goto (tgt := 42) d_X12_free_93 rfl ?_
        exact k
      · have k := k.2 c11
        refine aw_aload_n (i := 0) rfl d_X12_free_70 0 rfl ?_
        refine aw_getr (k0 := 77) kc_12 (ws_1 w) (Nat.le_of_ble_eq_true rfl) tw_1819 d_X12_free_71 rfl (wr_1_77 w) ?_
        refine aw_iload_n (i := 2) rfl d_X12_free_74 2 rfl ?_
        obtain ⟨b12, k⟩ := k
        refine aw_iald (ws_260 w) b12 d_X12_free_75 ?_
        refine aw_iconst (v := (-1)) d_X12_free_76 ic_m1 ?_
        refine aw_icmp_ne (tgt := 90) d_X12_free_77 rfl (fun c13 => ?_) (fun c13 => ?_)
        · have k := k.1 c13
          refine aw_iinc (v := (x2 + 1)) [(0, .ref 1), (1, .int x1), (2, .int (x2 + 1))] d_X12_free_90 2 rfl rfl (Nat.le_of_ble_eq_true rfl) rfl rfl ?_
          refine aw_goto (tgt := 42) d_X12_free_93 rfl ?_
          exact k
        · have k := k.2 c13
          refine aw_aload_n (i := 0) rfl d_X12_free_80 0 rfl ?_
          refine aw_getr (k0 := 77) kc_12 (ws_1 w) (Nat.le_of_ble_eq_true rfl) tw_1819 d_X12_free_81 rfl (wr_1_77 w) ?_
          refine aw_iload_n (i := 2) rfl d_X12_free_84 2 rfl ?_
          refine aw_aload_n (i := 0) rfl d_X12_free_85 0 rfl ?_
          refine aw_geti (k0 := 0) kc_12 (ws_1 w) (Nat.le_of_ble_eq_true rfl) tw_1742 d_X12_free_86 rfl ?_
          obtain ⟨b14, k⟩ := k
          refine aw_iast (ws_260 w) b14 d_X12_free_89 ?_
          refine aw_iinc (v := (x2 + 1)) [(0, .ref 1), (1, .int x1), (2, .int (x2 + 1))] d_X12_free_90 2 rfl rfl (Nat.le_of_ble_eq_true rfl) rfl rfl ?_
          refine aw_goto (tgt := 42) d_X12_free_93 rfl ?_
          exact k
theorem t_X12_pointsBy (d : Nat) (h : Hp_) (x1 : Int32) (x2 : Int32) (K : Int32 → Hp_ → Prop) (k : AW (m_X12_pointsBy (d + 0) 0 0) 0 0 5 [(0, .ref 1), (1, .int x1), (2, .int x2), (3, .int 0), (4, .int 0)] [] h (kI K)) : Ci (m_X12_pointsBy (d + 0) 0 0) [.ref 1, .int x1, .int x2] h K := by
  refine Ct.of (fun _ _ _ => trivial) rfl (Nat.le_of_ble_eq_true rfl) ?_
  show AW (m_X12_pointsBy (d + 0) 0 0) 0 0 0 [(0, .ref 1), (1, .int x1), (2, .int x2)] [] h (kI K)
  refine aw_iconst (v := 0) d_X12_pointsBy_0 ic_0 ?_
  refine aw_istore_n (i := 3) rfl [(0, .ref 1), (1, .int x1), (2, .int x2), (3, .int 0)] d_X12_pointsBy_1 (Nat.le_of_ble_eq_true rfl) rfl rfl ?_
  refine aw_iconst (v := 0) d_X12_pointsBy_2 ic_0 ?_
  refine aw_istore [(0, .ref 1), (1, .int x1), (2, .int x2), (3, .int 0), (4, .int 0)] d_X12_pointsBy_3 (Nat.le_of_ble_eq_true rfl) rfl rfl ?_
  exact k
theorem t_X12_pointsBy_5 (d : Nat) (h : Hp_) (w : Wf h) (x1 : Int32) (x2 : Int32) (x3 : Int32) (x4 : Int32) (K : Int32 → Hp_ → Prop) (k : ((h_i h 1 63) ≤ x4 → K x3 h) ∧ (¬ (h_i h 1 63) ≤ x4 → vp_in x4 400 ∧ ((¬ (h_i h 238 x4.toNatClampNeg) = x1 → AW (m_X12_pointsBy (d + 0) 0 0) 0 0 5 [(0, .ref 1), (1, .int x1), (2, .int x2), (3, .int (x3 + 0)), (4, .int (x4 + 1))] [] h (kI K)) ∧ ((h_i h 238 x4.toNatClampNeg) = x1 → (x2 = 0 → vp_in x4 400 ∧ (((h_i h 242 x4.toNatClampNeg) = (-1) → AW (m_X12_pointsBy (d + 0) 0 0) 0 0 5 [(0, .ref 1), (1, .int x1), (2, .int x2), (3, .int (x3 + 0)), (4, .int (x4 + 1))] [] h (kI K)) ∧ (¬ (h_i h 242 x4.toNatClampNeg) = (-1) → AW (m_X12_pointsBy (d + 0) 0 0) 0 0 5 [(0, .ref 1), (1, .int x1), (2, .int x2), (3, .int (x3 + 1)), (4, .int (x4 + 1))] [] h (kI K)))) ∧ (¬ x2 = 0 → vp_in x4 400 ∧ (((h_i h 241 x4.toNatClampNeg) = (-1) → AW (m_X12_pointsBy (d + 0) 0 0) 0 0 5 [(0, .ref 1), (1, .int x1), (2, .int x2), (3, .int (x3 + 0)), (4, .int (x4 + 1))] [] h (kI K)) ∧ (¬ (h_i h 241 x4.toNatClampNeg) = (-1) → AW (m_X12_pointsBy (d + 0) 0 0) 0 0 5 [(0, .ref 1), (1, .int x1), (2, .int x2), (3, .int (x3 + 1)), (4, .int (x4 + 1))] [] h (kI K)))))))) : AW (m_X12_pointsBy (d + 0) 0 0) 0 0 5 [(0, .ref 1), (1, .int x1), (2, .int x2), (3, .int x3), (4, .int x4)] [] h (kI K) := by
  refine aw_iload d_X12_pointsBy_5 4 rfl ?_
  refine aw_aload_n (i := 0) rfl d_X12_pointsBy_7 0 rfl ?_
  refine aw_geti (k0 := 63) kc_12 (ws_1 w) (Nat.le_of_ble_eq_true rfl) tw_1805 d_X12_pointsBy_8 rfl ?_
  refine aw_icmp_ge (tgt := 64) d_X12_pointsBy_11 rfl (fun c1 => ?_) (fun c1 => ?_)
  · have k := k.1 c1
    refine aw_iload_n (i := 3) rfl d_X12_pointsBy_64 3 rfl ?_
    exact aw_iret rfl d_X12_pointsBy_65 ⟨Nat.le_refl _, Nat.le_refl _⟩ ⟨_, rfl, k⟩
  · have k := k.2 c1
    refine aw_iload_n (i := 3) rfl d_X12_pointsBy_14 3 rfl ?_
    refine aw_aload_n (i := 0) rfl d_X12_pointsBy_15 0 rfl ?_
    refine aw_getr (k0 := 53) kc_12 (ws_1 w) (Nat.le_of_ble_eq_true rfl) tw_1795 d_X12_pointsBy_16 rfl (wr_1_53 w) ?_
    refine aw_iload d_X12_pointsBy_19 4 rfl ?_
    obtain ⟨b2, k⟩ := k
    refine aw_iald (ws_238 w) b2 d_X12_pointsBy_21 ?_
    refine aw_iload_n (i := 1) rfl d_X12_pointsBy_22 1 rfl ?_
    refine aw_icmp_ne (tgt := 55) d_X12_pointsBy_23 rfl (fun c3 => ?_) (fun c3 => ?_)
    · have k := k.1 c3
      refine aw_iconst (v := 0) d_X12_pointsBy_55 ic_0 ?_
      refine aw_iadd d_X12_pointsBy_56 ?_
      refine aw_istore_n (i := 3) rfl [(0, .ref 1), (1, .int x1), (2, .int x2), (3, .int (x3 + 0)), (4, .int x4)] d_X12_pointsBy_57 (Nat.le_of_ble_eq_true rfl) rfl rfl ?_
      refine aw_iinc (v := (x4 + 1)) [(0, .ref 1), (1, .int x1), (2, .int x2), (3, .int (x3 + 0)), (4, .int (x4 + 1))] d_X12_pointsBy_58 4 rfl rfl (Nat.le_of_ble_eq_true rfl) rfl rfl ?_
      refine aw_goto (tgt := 5) d_X12_pointsBy_61 rfl ?_
      exact k
    · have k := k.2 c3
      refine aw_iload_n (i := 2) rfl d_X12_pointsBy_26 2 rfl ?_
      refine aw_if_eq (tgt := 40) d_X12_pointsBy_27 rfl (fun c4 => ?_) (fun c4 => ?_)
      · have k := k.1 c4
        refine aw_aload_n (i := 0) rfl d_X12_pointsBy_40 0 rfl ?_
        refine aw_getr (k0 := 57) kc_12 (ws_1 w) (Nat.le_of_ble_eq_true rfl) tw_1799 d_X12_pointsBy_41 rfl (wr_1_57 w) ?_
        refine aw_iload d_X12_pointsBy_44 4 rfl ?_
        obtain ⟨b5, k⟩ := k
        refine aw_iald (ws_242 w) b5 d_X12_pointsBy_46 ?_
        refine aw_iconst (v := (-1)) d_X12_pointsBy_47 ic_m1 ?_
        refine aw_icmp_eq (tgt := 55) d_X12_pointsBy_48 rfl (fun c6 => ?_) (fun c6 => ?_)
        · have k := k.1 c6
          refine aw_iconst (v := 0) d_X12_pointsBy_55 ic_0 ?_
          refine aw_iadd d_X12_pointsBy_56 ?_
          refine aw_istore_n (i := 3) rfl [(0, .ref 1), (1, .int x1), (2, .int x2), (3, .int (x3 + 0)), (4, .int x4)] d_X12_pointsBy_57 (Nat.le_of_ble_eq_true rfl) rfl rfl ?_
          refine aw_iinc (v := (x4 + 1)) [(0, .ref 1), (1, .int x1), (2, .int x2), (3, .int (x3 + 0)), (4, .int (x4 + 1))] d_X12_pointsBy_58 4 rfl rfl (Nat.le_of_ble_eq_true rfl) rfl rfl ?_
          refine aw_goto (tgt := 5) d_X12_pointsBy_61 rfl ?_
          exact k
        · have k := k.2 c6
          refine aw_iconst (v := 1) d_X12_pointsBy_51 ic_1 ?_
          refine aw_goto (tgt := 56) d_X12_pointsBy_52 rfl ?_
          refine aw_iadd d_X12_pointsBy_56 ?_
          refine aw_istore_n (i := 3) rfl [(0, .ref 1), (1, .int x1), (2, .int x2), (3, .int (x3 + 1)), (4, .int x4)] d_X12_pointsBy_57 (Nat.le_of_ble_eq_true rfl) rfl rfl ?_
          refine aw_iinc (v := (x4 + 1)) [(0, .ref 1), (1, .int x1), (2, .int x2), (3, .int (x3 + 1)), (4, .int (x4 + 1))] d_X12_pointsBy_58 4 rfl rfl (Nat.le_of_ble_eq_true rfl) rfl rfl ?_
          refine aw_goto (tgt := 5) d_X12_pointsBy_61 rfl ?_
          exact k
      · have k := k.2 c4
        refine aw_aload_n (i := 0) rfl d_X12_pointsBy_30 0 rfl ?_
        refine aw_getr (k0 := 56) kc_12 (ws_1 w) (Nat.le_of_ble_eq_true rfl) tw_1798 d_X12_pointsBy_31 rfl (wr_1_56 w) ?_
        refine aw_iload d_X12_pointsBy_34 4 rfl ?_
        obtain ⟨b7, k⟩ := k
        refine aw_iald (ws_241 w) b7 d_X12_pointsBy_36 ?_
        refine aw_goto (tgt := 47) d_X12_pointsBy_37 rfl ?_
        refine aw_iconst (v := (-1)) d_X12_pointsBy_47 ic_m1 ?_
        refine aw_icmp_eq (tgt := 55) d_X12_pointsBy_48 rfl (fun c8 => ?_) (fun c8 => ?_)
        · have k := k.1 c8
          refine aw_iconst (v := 0) d_X12_pointsBy_55 ic_0 ?_
          refine aw_iadd d_X12_pointsBy_56 ?_
          refine aw_istore_n (i := 3) rfl [(0, .ref 1), (1, .int x1), (2, .int x2), (3, .int (x3 + 0)), (4, .int x4)] d_X12_pointsBy_57 (Nat.le_of_ble_eq_true rfl) rfl rfl ?_
          refine aw_iinc (v := (x4 + 1)) [(0, .ref 1), (1, .int x1), (2, .int x2), (3, .int (x3 + 0)), (4, .int (x4 + 1))] d_X12_pointsBy_58 4 rfl rfl (Nat.le_of_ble_eq_true rfl) rfl rfl ?_
          refine aw_goto (tgt := 5) d_X12_pointsBy_61 rfl ?_
          exact k
        · have k := k.2 c8
          refine aw_iconst (v := 1) d_X12_pointsBy_51 ic_1 ?_
          refine aw_goto (tgt := 56) d_X12_pointsBy_52 rfl ?_
          refine aw_iadd d_X12_pointsBy_56 ?_
          refine aw_istore_n (i := 3) rfl [(0, .ref 1), (1, .int x1), (2, .int x2), (3, .int (x3 + 1)), (4, .int x4)] d_X12_pointsBy_57 (Nat.le_of_ble_eq_true rfl) rfl rfl ?_
          refine aw_iinc (v := (x4 + 1)) [(0, .ref 1), (1, .int x1), (2, .int x2), (3, .int (x3 + 1)), (4, .int (x4 + 1))] d_X12_pointsBy_58 4 rfl rfl (Nat.le_of_ble_eq_true rfl) rfl rfl ?_
          refine aw_goto (tgt := 5) d_X12_pointsBy_61 rfl ?_
          exact k
theorem t_X12_wasAt (d : Nat) (h : Hp_) (w : Wf h) (x1 : Int32) (x2 : Int32) (K : Int32 → Hp_ → Prop) (k : (¬ x2 = (h_i h 1 0) → vp_in ((20001 * x1) + x2) 240012 ∧ (K (h_i h 220 (((20001 * x1) + x2) : Int32).toNatClampNeg) h)) ∧ (x2 = (h_i h 1 0) → vp_in x1 12 ∧ (K (h_i h 209 x1.toNatClampNeg) h))) : Ci (m_X12_wasAt (d + 0) 0 0) [.ref 1, .int x1, .int x2] h K := by
  refine Ct.of (fun _ _ _ => trivial) rfl (Nat.le_of_ble_eq_true rfl) ?_
  show AW (m_X12_wasAt (d + 0) 0 0) 0 0 0 [(0, .ref 1), (1, .int x1), (2, .int x2)] [] h (kI K)
  refine aw_iload_n (i := 2) rfl d_X12_wasAt_0 2 rfl ?_
  refine aw_aload_n (i := 0) rfl d_X12_wasAt_1 0 rfl ?_
  refine aw_geti (k0 := 0) kc_12 (ws_1 w) (Nat.le_of_ble_eq_true rfl) tw_1742 d_X12_wasAt_2 rfl ?_
  refine aw_icmp_ne (tgt := 17) d_X12_wasAt_5 rfl (fun c1 => ?_) (fun c1 => ?_)
  · have k := k.1 c1
    refine aw_aload_n (i := 0) rfl d_X12_wasAt_17 0 rfl ?_
    refine aw_getr (k0 := 24) kc_12 (ws_1 w) (Nat.le_of_ble_eq_true rfl) tw_1766 d_X12_wasAt_18 rfl (wr_1_24 w) ?_
    refine aw_sipush (v := 20001) d_X12_wasAt_21 is_20001 ?_
    refine aw_iload_n (i := 1) rfl d_X12_wasAt_24 1 rfl ?_
    refine aw_imul d_X12_wasAt_25 ?_
    refine aw_iload_n (i := 2) rfl d_X12_wasAt_26 2 rfl ?_
    refine aw_iadd d_X12_wasAt_27 ?_
    obtain ⟨b2, k⟩ := k
    refine aw_bald (ws_220 w) b2 d_X12_wasAt_28 ?_
    exact aw_iret rfl d_X12_wasAt_29 ⟨Nat.le_refl _, Nat.le_refl _⟩ ⟨_, rfl, k⟩
  · have k := k.2 c1
    refine aw_aload_n (i := 0) rfl d_X12_wasAt_8 0 rfl ?_
    refine aw_getr (k0 := 13) kc_12 (ws_1 w) (Nat.le_of_ble_eq_true rfl) tw_1755 d_X12_wasAt_9 rfl (wr_1_13 w) ?_
    refine aw_iload_n (i := 1) rfl d_X12_wasAt_12 1 rfl ?_
    obtain ⟨b3, k⟩ := k
    refine aw_iald (ws_209 w) b3 d_X12_wasAt_13 ?_
    refine aw_goto (tgt := 29) d_X12_wasAt_14 rfl ?_
    exact aw_iret rfl d_X12_wasAt_29 ⟨Nat.le_refl _, Nat.le_refl _⟩ ⟨_, rfl, k⟩
theorem t_X12_opened (d : Nat) (h : Hp_) (w : Wf h) (x1 : Int32) (K : Int32 → Hp_ → Prop) (k : vp_in (h_i h 1 96) 30 ∧ (vp_in (h_i h 1 96) 30 ∧ (K (((h_i h 1 96) + 1) - 1) (h_im (h_im (h_im h 262 ((h_i h 1 96) : Int32).toNatClampNeg x1) 263 ((h_i h 1 96) : Int32).toNatClampNeg (h_i h 1 0)) 1 96 ((h_i h 1 96) + 1))))) : Ci (m_X12_opened (d + 0) 0 0) [.ref 1, .int x1] h K := by
  refine Ct.of (fun _ _ _ => trivial) rfl (Nat.le_of_ble_eq_true rfl) ?_
  show AW (m_X12_opened (d + 0) 0 0) 0 0 0 [(0, .ref 1), (1, .int x1)] [] h (kI K)
  refine aw_aload_n (i := 0) rfl d_X12_opened_0 0 rfl ?_
  refine aw_getr (k0 := 81) kc_12 (ws_1 w) (Nat.le_of_ble_eq_true rfl) tw_1823 d_X12_opened_1 rfl (wr_1_81 w) ?_
  refine aw_aload_n (i := 0) rfl d_X12_opened_4 0 rfl ?_
  refine aw_geti (k0 := 96) kc_12 (ws_1 w) (Nat.le_of_ble_eq_true rfl) tw_1838 d_X12_opened_5 rfl ?_
  refine aw_iload_n (i := 1) rfl d_X12_opened_8 1 rfl ?_
  obtain ⟨b1, k⟩ := k
  refine aw_iast (ws_262 w) b1 d_X12_opened_9 ?_
  refine aw_aload_n (i := 0) rfl d_X12_opened_10 0 rfl ?_
  refine aw_getr (k0 := 82) kc_12 (ws_1 w) (Nat.le_of_ble_eq_true rfl) tw_1824 d_X12_opened_11 rfl (wr_1_82 w) ?_
  refine aw_aload_n (i := 0) rfl d_X12_opened_14 0 rfl ?_
  refine aw_geti (k0 := 96) kc_12 (ws_1 w) (Nat.le_of_ble_eq_true rfl) tw_1838 d_X12_opened_15 rfl ?_
  refine aw_vi (v2 := (h_i h 1 96)) (rfl) ?_
  refine aw_aload_n (i := 0) rfl d_X12_opened_18 0 rfl ?_
  refine aw_geti (k0 := 0) kc_12 (ws_1 w) (Nat.le_of_ble_eq_true rfl) tw_1742 d_X12_opened_19 rfl ?_
  refine aw_vi (v2 := (h_i h 1 0)) (rfl) ?_
  obtain ⟨b2, k⟩ := k
  refine aw_iast (ws_263 w) b2 d_X12_opened_22 ?_
  refine aw_aload_n (i := 0) rfl d_X12_opened_23 0 rfl ?_
  refine aw_dup d_X12_opened_24 rfl ?_
  refine aw_geti (k0 := 96) kc_12 (ws_1 w) (Nat.le_of_ble_eq_true rfl) tw_1838 d_X12_opened_25 rfl ?_
  refine aw_vi (v2 := (h_i h 1 96)) (rfl) ?_
  refine aw_iconst (v := 1) d_X12_opened_28 ic_1 ?_
  refine aw_iadd d_X12_opened_29 ?_
  refine aw_puti (k0 := 96) kc_12 (ws_1 w) (Nat.le_of_ble_eq_true rfl) tw_1838 d_X12_opened_30 rfl rfl nf_i ?_
  refine aw_aload_n (i := 0) rfl d_X12_opened_33 0 rfl ?_
  refine aw_geti (k0 := 96) kc_12 (ws_1 w) (Nat.le_of_ble_eq_true rfl) tw_1838 d_X12_opened_34 rfl ?_
  refine aw_vi (v2 := ((h_i h 1 96) + 1)) (rfl) ?_
  refine aw_iconst (v := 1) d_X12_opened_37 ic_1 ?_
  refine aw_isub d_X12_opened_38 ?_
  exact aw_iret rfl d_X12_opened_39 ⟨Nat.le_refl _, Nat.le_refl _⟩ ⟨_, rfl, k⟩
theorem t_X12_factOf (d : Nat) (h : Hp_) (x1 : Int32) (x2 : Int32) (x3 : Int32) (K : Int32 → Hp_ → Prop) (k : AW (m_X12_factOf (d + 0) 0 0) 0 0 9 [(0, .ref 1), (1, .int x1), (2, .int x2), (3, .int x3), (4, .int 0), (5, .int 0), (6, .int 0)] [] h (kI K)) : Ci (m_X12_factOf (d + 0) 0 0) [.ref 1, .int x1, .int x2, .int x3] h K := by
  refine Ct.of (fun _ _ _ => trivial) rfl (Nat.le_of_ble_eq_true rfl) ?_
  show AW (m_X12_factOf (d + 0) 0 0) 0 0 0 [(0, .ref 1), (1, .int x1), (2, .int x2), (3, .int x3)] [] h (kI K)
  refine aw_iconst (v := 0) d_X12_factOf_0 ic_0 ?_
  refine aw_istore [(0, .ref 1), (1, .int x1), (2, .int x2), (3, .int x3), (4, .int 0)] d_X12_factOf_1 (Nat.le_of_ble_eq_true rfl) rfl rfl ?_
  refine aw_iconst (v := 0) d_X12_factOf_3 ic_0 ?_
  refine aw_istore [(0, .ref 1), (1, .int x1), (2, .int x2), (3, .int x3), (4, .int 0), (5, .int 0)] d_X12_factOf_4 (Nat.le_of_ble_eq_true rfl) rfl rfl ?_
  refine aw_iconst (v := 0) d_X12_factOf_6 ic_0 ?_
  refine aw_istore [(0, .ref 1), (1, .int x1), (2, .int x2), (3, .int x3), (4, .int 0), (5, .int 0), (6, .int 0)] d_X12_factOf_7 (Nat.le_of_ble_eq_true rfl) rfl rfl ?_
  exact k
theorem t_X12_factOf_9 (d : Nat) (h : Hp_) (w : Wf h) (x1 : Int32) (x2 : Int32) (x3 : Int32) (x4 : Int32) (x5 : Int32) (x6 : Int32) (K : Int32 → Hp_ → Prop) (k : (16 ≤ x6 → (x4 ≤ 0 → vp_in x2 8 ∧ ((x4 < (h_i h 265 x2.toNatClampNeg) → vp_in x2 8 ∧ ((x5 < (h_i h 265 x2.toNatClampNeg) → K 0 h) ∧ (¬ x5 < (h_i h 265 x2.toNatClampNeg) → K 2 h))) ∧ (¬ x4 < (h_i h 265 x2.toNatClampNeg) → K 1 h))) ∧ (¬ x4 ≤ 0 → (x5 ≤ 0 → vp_in x2 8 ∧ ((x4 < (h_i h 265 x2.toNatClampNeg) → vp_in x2 8 ∧ ((x5 < (h_i h 265 x2.toNatClampNeg) → K 0 h) ∧ (¬ x5 < (h_i h 265 x2.toNatClampNeg) → K 2 h))) ∧ (¬ x4 < (h_i h 265 x2.toNatClampNeg) → K 1 h))) ∧ (¬ x5 ≤ 0 → K 3 h))) ∧ (¬ 16 ≤ x6 → AW (m_X12_factOf (d + 0) 0 0) 0 0 22 [(0, .ref 1), (1, .int x1), (2, .int x2), (3, .int x3), (4, .int x4), (5, .int x5), (6, .int x6), (7, .int (-1)), (8, .int 0)] [] h (kI K))) : AW (m_X12_factOf (d + 0) 0 0) 0 0 9 [(0, .ref 1), (1, .int x1), (2, .int x2), (3, .int x3), (4, .int x4), (5, .int x5), (6, .int x6)] [] h (kI K) := by
  refine aw_iload d_X12_factOf_9 6 rfl ?_
  refine aw_bipush (v := 16) d_X12_factOf_11 ib_16 ?_
  refine aw_icmp_ge (tgt := 162) d_X12_factOf_13 rfl (fun c1 => ?_) (fun c1 => ?_)
  · have k := k.1 c1
    refine aw_iload d_X12_factOf_162 4 rfl ?_
    refine aw_if_le (tgt := 174) d_X12_factOf_164 rfl (fun c2 => ?_) (fun c2 => ?_)
    · have k := k.1 c2
      refine aw_iload d_X12_factOf_174 4 rfl ?_
      refine aw_aload_n (i := 0) rfl d_X12_factOf_176 0 rfl ?_
      refine aw_getr (k0 := 84) kc_12 (ws_1 w) (Nat.le_of_ble_eq_true rfl) tw_1826 d_X12_factOf_177 rfl (wr_1_84 w) ?_
      refine aw_iload_n (i := 2) rfl d_X12_factOf_180 2 rfl ?_
      obtain ⟨b3, k⟩ := k
      refine aw_iald (ws_265 w) b3 d_X12_factOf_181 ?_
      refine aw_icmp_lt (tgt := 189) d_X12_factOf_182 rfl (fun c4 => ?_) (fun c4 => ?_)
      · have k := k.1 c4
        refine aw_iload d_X12_factOf_189 5 rfl ?_
        refine aw_aload_n (i := 0) rfl d_X12_factOf_191 0 rfl ?_
        refine aw_getr (k0 := 84) kc_12 (ws_1 w) (Nat.le_of_ble_eq_true rfl) tw_1826 d_X12_factOf_192 rfl (wr_1_84 w) ?_
        refine aw_iload_n (i := 2) rfl d_X12_factOf_195 2 rfl ?_
        obtain ⟨b5, k⟩ := k
        refine aw_iald (ws_265 w) b5 d_X12_factOf_196 ?_
        refine aw_icmp_lt (tgt := 204) d_X12_factOf_197 rfl (fun c6 => ?_) (fun c6 => ?_)
        · have k := k.1 c6
          refine aw_iconst (v := 0) d_X12_factOf_204 ic_0 ?_
          exact aw_iret rfl d_X12_factOf_205 ⟨Nat.le_refl _, Nat.le_refl _⟩ ⟨_, rfl, k⟩
        · have k := k.2 c6
          refine aw_iconst (v := 2) d_X12_factOf_200 ic_2 ?_
          refine aw_goto (tgt := 205) d_X12_factOf_201 rfl ?_
          exact aw_iret rfl d_X12_factOf_205 ⟨Nat.le_refl _, Nat.le_refl _⟩ ⟨_, rfl, k⟩
      · have k := k.2 c4
        refine aw_iconst (v := 1) d_X12_factOf_185 ic_1 ?_
        refine aw_goto (tgt := 205) d_X12_factOf_186 rfl ?_
        exact aw_iret rfl d_X12_factOf_205 ⟨Nat.le_refl _, Nat.le_refl _⟩ ⟨_, rfl, k⟩
    · have k := k.2 c2
      refine aw_iload d_X12_factOf_167 5 rfl ?_
      refine aw_if_le (tgt := 174) d_X12_factOf_169 rfl (fun c7 => ?_) (fun c7 => ?_)
      · have k := k.1 c7
        refine aw_iload d_X12_factOf_174 4 rfl ?_
        refine aw_aload_n (i := 0) rfl d_X12_factOf_176 0 rfl ?_
        refine aw_getr (k0 := 84) kc_12 (ws_1 w) (Nat.le_of_ble_eq_true rfl) tw_1826 d_X12_factOf_177 rfl (wr_1_84 w) ?_
        refine aw_iload_n (i := 2) rfl d_X12_factOf_180 2 rfl ?_
        obtain ⟨b8, k⟩ := k
        refine aw_iald (ws_265 w) b8 d_X12_factOf_181 ?_
        refine aw_icmp_lt (tgt := 189) d_X12_factOf_182 rfl (fun c9 => ?_) (fun c9 => ?_)
        · have k := k.1 c9
          refine aw_iload d_X12_factOf_189 5 rfl ?_
          refine aw_aload_n (i := 0) rfl d_X12_factOf_191 0 rfl ?_
          refine aw_getr (k0 := 84) kc_12 (ws_1 w) (Nat.le_of_ble_eq_true rfl) tw_1826 d_X12_factOf_192 rfl (wr_1_84 w) ?_
          refine aw_iload_n (i := 2) rfl d_X12_factOf_195 2 rfl ?_
          obtain ⟨b10, k⟩ := k
          refine aw_iald (ws_265 w) b10 d_X12_factOf_196 ?_
          refine aw_icmp_lt (tgt := 204) d_X12_factOf_197 rfl (fun c11 => ?_) (fun c11 => ?_)
          · have k := k.1 c11
            refine aw_iconst (v := 0) d_X12_factOf_204 ic_0 ?_
            exact aw_iret rfl d_X12_factOf_205 ⟨Nat.le_refl _, Nat.le_refl _⟩ ⟨_, rfl, k⟩
          · have k := k.2 c11
            refine aw_iconst (v := 2) d_X12_factOf_200 ic_2 ?_
            refine aw_goto (tgt := 205) d_X12_factOf_201 rfl ?_
            exact aw_iret rfl d_X12_factOf_205 ⟨Nat.le_refl _, Nat.le_refl _⟩ ⟨_, rfl, k⟩
        · have k := k.2 c9
          refine aw_iconst (v := 1) d_X12_factOf_185 ic_1 ?_
          refine aw_goto (tgt := 205) d_X12_factOf_186 rfl ?_
          exact aw_iret rfl d_X12_factOf_205 ⟨Nat.le_refl _, Nat.le_refl _⟩ ⟨_, rfl, k⟩
      · have k := k.2 c7
        refine aw_iconst (v := 3) d_X12_factOf_172 ic_3 ?_
        exact aw_iret rfl d_X12_factOf_173 ⟨Nat.le_refl _, Nat.le_refl _⟩ ⟨_, rfl, k⟩
  · have k := k.2 c1
    refine aw_iconst (v := (-1)) d_X12_factOf_16 ic_m1 ?_
    refine aw_istore [(0, .ref 1), (1, .int x1), (2, .int x2), (3, .int x3), (4, .int x4), (5, .int x5), (6, .int x6), (7, .int (-1))] d_X12_factOf_17 (Nat.le_of_ble_eq_true rfl) rfl rfl ?_
    refine aw_iconst (v := 0) d_X12_factOf_19 ic_0 ?_
    refine aw_istore [(0, .ref 1), (1, .int x1), (2, .int x2), (3, .int x3), (4, .int x4), (5, .int x5), (6, .int x6), (7, .int (-1)), (8, .int 0)] d_X12_factOf_20 (Nat.le_of_ble_eq_true rfl) rfl rfl ?_
    exact k
theorem t_X12_factOf_22 (d : Nat) (h : Hp_) (w : Wf h) (x1 : Int32) (x2 : Int32) (x3 : Int32) (x4 : Int32) (x5 : Int32) (x6 : Int32) (x7 : Int32) (x8 : Int32) (K : Int32 → Hp_ → Prop) (k : ((h_i h 1 97) ≤ x8 → (x7 = (-1) → AW (m_X12_factOf (d + 0) 0 0) 0 0 9 [(0, .ref 1), (1, .int x1), (2, .int x2), (3, .int x3), (4, .int x4), (5, .int x5), (6, .int (x6 + 1))] [] h (kI K)) ∧ (¬ x7 = (-1) → vp_in x6 16 ∧ (((h_i h 272 x6.toNatClampNeg) = 0 → vp_in x7 200 ∧ (((h_i h 270 x7.toNatClampNeg) = 0 → vp_in x7 200 ∧ (((h_i h 270 x7.toNatClampNeg) = 0 → AW (m_X12_factOf (d + 0) 0 0) 0 0 9 [(0, .ref 1), (1, .int x1), (2, .int x2), (3, .int x3), (4, .int (x4 + 0)), (5, .int (x5 + 1)), (6, .int (x6 + 1))] [] h (kI K)) ∧ (¬ (h_i h 270 x7.toNatClampNeg) = 0 → AW (m_X12_factOf (d + 0) 0 0) 0 0 9 [(0, .ref 1), (1, .int x1), (2, .int x2), (3, .int x3), (4, .int (x4 + 0)), (5, .int (x5 + 0)), (6, .int (x6 + 1))] [] h (kI K)))) ∧ (¬ (h_i h 270 x7.toNatClampNeg) = 0 → vp_in x7 200 ∧ (((h_i h 270 x7.toNatClampNeg) = 0 → AW (m_X12_factOf (d + 0) 0 0) 0 0 9 [(0, .ref 1), (1, .int x1), (2, .int x2), (3, .int x3), (4, .int (x4 + 1)), (5, .int (x5 + 1)), (6, .int (x6 + 1))] [] h (kI K)) ∧ (¬ (h_i h 270 x7.toNatClampNeg) = 0 → AW (m_X12_factOf (d + 0) 0 0) 0 0 9 [(0, .ref 1), (1, .int x1), (2, .int x2), (3, .int x3), (4, .int (x4 + 1)), (5, .int (x5 + 0)), (6, .int (x6 + 1))] [] h (kI K)))))) ∧ (¬ (h_i h 272 x6.toNatClampNeg) = 0 → vp_in x6 16 ∧ ((x3 < (h_i h 271 x6.toNatClampNeg) → vp_in x7 200 ∧ (((h_i h 270 x7.toNatClampNeg) = 0 → vp_in x7 200 ∧ (((h_i h 270 x7.toNatClampNeg) = 0 → AW (m_X12_factOf (d + 0) 0 0) 0 0 9 [(0, .ref 1), (1, .int x1), (2, .int x2), (3, .int x3), (4, .int (x4 + 0)), (5, .int (x5 + 1)), (6, .int (x6 + 1))] [] h (kI K)) ∧ (¬ (h_i h 270 x7.toNatClampNeg) = 0 → AW (m_X12_factOf (d + 0) 0 0) 0 0 9 [(0, .ref 1), (1, .int x1), (2, .int x2), (3, .int x3), (4, .int (x4 + 0)), (5, .int (x5 + 0)), (6, .int (x6 + 1))] [] h (kI K)))) ∧ (¬ (h_i h 270 x7.toNatClampNeg) = 0 → vp_in x7 200 ∧ (((h_i h 270 x7.toNatClampNeg) = 0 → AW (m_X12_factOf (d + 0) 0 0) 0 0 9 [(0, .ref 1), (1, .int x1), (2, .int x2), (3, .int x3), (4, .int (x4 + 1)), (5, .int (x5 + 1)), (6, .int (x6 + 1))] [] h (kI K)) ∧ (¬ (h_i h 270 x7.toNatClampNeg) = 0 → AW (m_X12_factOf (d + 0) 0 0) 0 0 9 [(0, .ref 1), (1, .int x1), (2, .int x2), (3, .int x3), (4, .int (x4 + 1)), (5, .int (x5 + 0)), (6, .int (x6 + 1))] [] h (kI K)))))) ∧ (¬ x3 < (h_i h 271 x6.toNatClampNeg) → AW (m_X12_factOf (d + 0) 0 0) 0 0 9 [(0, .ref 1), (1, .int x1), (2, .int x2), (3, .int x3), (4, .int x4), (5, .int x5), (6, .int (x6 + 1))] [] h (kI K))))))) ∧ (¬ (h_i h 1 97) ≤ x8 → vp_in x8 200 ∧ ((¬ (h_i h 268 x8.toNatClampNeg) = x6 → AW (m_X12_factOf (d + 0) 0 0) 0 0 22 [(0, .ref 1), (1, .int x1), (2, .int x2), (3, .int x3), (4, .int x4), (5, .int x5), (6, .int x6), (7, .int x7), (8, .int (x8 + 1))] [] h (kI K)) ∧ ((h_i h 268 x8.toNatClampNeg) = x6 → vp_in x8 200 ∧ ((¬ (h_i h 266 x8.toNatClampNeg) = x1 → AW (m_X12_factOf (d + 0) 0 0) 0 0 22 [(0, .ref 1), (1, .int x1), (2, .int x2), (3, .int x3), (4, .int x4), (5, .int x5), (6, .int x6), (7, .int x7), (8, .int (x8 + 1))] [] h (kI K)) ∧ ((h_i h 266 x8.toNatClampNeg) = x1 → vp_in x8 200 ∧ ((¬ (h_i h 267 x8.toNatClampNeg) = x2 → AW (m_X12_factOf (d + 0) 0 0) 0 0 22 [(0, .ref 1), (1, .int x1), (2, .int x2), (3, .int x3), (4, .int x4), (5, .int x5), (6, .int x6), (7, .int x7), (8, .int (x8 + 1))] [] h (kI K)) ∧ ((h_i h 267 x8.toNatClampNeg) = x2 → vp_in x8 200 ∧ ((x3 < (h_i h 269 x8.toNatClampNeg) → AW (m_X12_factOf (d + 0) 0 0) 0 0 22 [(0, .ref 1), (1, .int x1), (2, .int x2), (3, .int x3), (4, .int x4), (5, .int x5), (6, .int x6), (7, .int x7), (8, .int (x8 + 1))] [] h (kI K)) ∧ (¬ x3 < (h_i h 269 x8.toNatClampNeg) → AW (m_X12_factOf (d + 0) 0 0) 0 0 22 [(0, .ref 1), (1, .int x1), (2, .int x2), (3, .int x3), (4, .int x4), (5, .int x5), (6, .int x6), (7, .int x8), (8, .int (x8 + 1))] [] h (kI K))))))))))) : AW (m_X12_factOf (d + 0) 0 0) 0 0 22 [(0, .ref 1), (1, .int x1), (2, .int x2), (3, .int x3), (4, .int x4), (5, .int x5), (6, .int x6), (7, .int x7), (8, .int x8)] [] h (kI K) := by
  refine aw_iload d_X12_factOf_22 8 rfl ?_
  refine aw_aload_n (i := 0) rfl d_X12_factOf_24 0 rfl ?_
  refine aw_geti (k0 := 97) kc_12 (ws_1 w) (Nat.le_of_ble_eq_true rfl) tw_1839 d_X12_factOf_25 rfl ?_
  refine aw_icmp_ge (tgt := 86) d_X12_factOf_28 rfl (fun c12 => ?_) (fun c12 => ?_)
  · have k := k.1 c12
    refine aw_iload d_X12_factOf_86 7 rfl ?_
    refine aw_iconst (v := (-1)) d_X12_factOf_88 ic_m1 ?_
    refine aw_icmp_eq (tgt := 156) d_X12_factOf_89 rfl (fun c13 => ?_) (fun c13 => ?_)
    · have k := k.1 c13
      refine aw_iinc (v := (x6 + 1)) [(0, .ref 1), (1, .int x1), (2, .int x2), (3, .int x3), (4, .int x4), (5, .int x5), (6, .int (x6 + 1)), (7, .int x7), (8, .int x8)] d_X12_factOf_156 6 rfl rfl (Nat.le_of_ble_eq_true rfl) rfl rfl ?_
      refine aw_goto (tgt := 9) d_X12_factOf_159 rfl ?_
      exact aw_lvp [0, 1, 2, 3, 4, 5, 6] [(0, .ref 1), (1, .int x1), (2, .int x2), (3, .int x3), (4, .int x4), (5, .int x5), (6, .int (x6 + 1))] rfl k
    · have k := k.2 c13
      refine aw_aload_n (i := 0) rfl d_X12_factOf_92 0 rfl ?_
      refine aw_getr (k0 := 91) kc_12 (ws_1 w) (Nat.le_of_ble_eq_true rfl) tw_1833 d_X12_factOf_93 rfl (wr_1_91 w) ?_
      refine aw_iload d_X12_factOf_96 6 rfl ?_
      obtain ⟨b14, k⟩ := k
      refine aw_zald (ws_272 w) b14 d_X12_factOf_98 ?_
      refine aw_if_eq (tgt := 116) d_X12_factOf_99 rfl (fun c15 => ?_) (fun c15 => ?_)
      · have k := k.1 c15
        refine aw_iload d_X12_factOf_116 4 rfl ?_
        refine aw_aload_n (i := 0) rfl d_X12_factOf_118 0 rfl ?_
        refine aw_getr (k0 := 89) kc_12 (ws_1 w) (Nat.le_of_ble_eq_true rfl) tw_1831 d_X12_factOf_119 rfl (wr_1_89 w) ?_
        refine aw_iload d_X12_factOf_122 7 rfl ?_
        obtain ⟨b16, k⟩ := k
        refine aw_zald (ws_270 w) b16 d_X12_factOf_124 ?_
        refine aw_if_eq (tgt := 132) d_X12_factOf_125 rfl (fun c17 => ?_) (fun c17 => ?_)
        · have k := k.1 c17
          refine aw_iconst (v := 0) d_X12_factOf_132 ic_0 ?_
          refine aw_iadd d_X12_factOf_133 ?_
          refine aw_istore [(0, .ref 1), (1, .int x1), (2, .int x2), (3, .int x3), (4, .int (x4 + 0)), (5, .int x5), (6, .int x6), (7, .int x7), (8, .int x8)] d_X12_factOf_134 (Nat.le_of_ble_eq_true rfl) rfl rfl ?_
          refine aw_iload d_X12_factOf_136 5 rfl ?_
          refine aw_aload_n (i := 0) rfl d_X12_factOf_138 0 rfl ?_
          refine aw_getr (k0 := 89) kc_12 (ws_1 w) (Nat.le_of_ble_eq_true rfl) tw_1831 d_X12_factOf_139 rfl (wr_1_89 w) ?_
          refine aw_iload d_X12_factOf_142 7 rfl ?_
          obtain ⟨b18, k⟩ := k
          refine aw_zald (ws_270 w) b18 d_X12_factOf_144 ?_
          refine aw_if_eq (tgt := 152) d_X12_factOf_145 rfl (fun c19 => ?_) (fun c19 => ?_)
          · have k := k.1 c19
            refine aw_iconst (v := 1) d_X12_factOf_152 ic_1 ?_
            refine aw_iadd d_X12_factOf_153 ?_
            refine aw_istore [(0, .ref 1), (1, .int x1), (2, .int x2), (3, .int x3), (4, .int (x4 + 0)), (5, .int (x5 + 1)), (6, .int x6), (7, .int x7), (8, .int x8)] d_X12_factOf_154 (Nat.le_of_ble_eq_true rfl) rfl rfl ?_
            refine aw_iinc (v := (x6 + 1)) [(0, .ref 1), (1, .int x1), (2, .int x2), (3, .int x3), (4, .int (x4 + 0)), (5, .int (x5 + 1)), (6, .int (x6 + 1)), (7, .int x7), (8, .int x8)] d_X12_factOf_156 6 rfl rfl (Nat.le_of_ble_eq_true rfl) rfl rfl ?_
            refine aw_goto (tgt := 9) d_X12_factOf_159 rfl ?_
            exact aw_lvp [0, 1, 2, 3, 4, 5, 6] [(0, .ref 1), (1, .int x1), (2, .int x2), (3, .int x3), (4, .int (x4 + 0)), (5, .int (x5 + 1)), (6, .int (x6 + 1))] rfl k
          · have k := k.2 c19
            refine aw_iconst (v := 0) d_X12_factOf_148 ic_0 ?_
            refine aw_goto (tgt := 153) d_X12_factOf_149 rfl ?_
            refine aw_iadd d_X12_factOf_153 ?_
            refine aw_istore [(0, .ref 1), (1, .int x1), (2, .int x2), (3, .int x3), (4, .int (x4 + 0)), (5, .int (x5 + 0)), (6, .int x6), (7, .int x7), (8, .int x8)] d_X12_factOf_154 (Nat.le_of_ble_eq_true rfl) rfl rfl ?_
            refine aw_iinc (v := (x6 + 1)) [(0, .ref 1), (1, .int x1), (2, .int x2), (3, .int x3), (4, .int (x4 + 0)), (5, .int (x5 + 0)), (6, .int (x6 + 1)), (7, .int x7), (8, .int x8)] d_X12_factOf_156 6 rfl rfl (Nat.le_of_ble_eq_true rfl) rfl rfl ?_
            refine aw_goto (tgt := 9) d_X12_factOf_159 rfl ?_
            exact aw_lvp [0, 1, 2, 3, 4, 5, 6] [(0, .ref 1), (1, .int x1), (2, .int x2), (3, .int x3), (4, .int (x4 + 0)), (5, .int (x5 + 0)), (6, .int (x6 + 1))] rfl k
        · have k := k.2 c17
          refine aw_iconst (v := 1) d_X12_factOf_128 ic_1 ?_
          refine aw_goto (tgt := 133) d_X12_factOf_129 rfl ?_
          refine aw_iadd d_X12_factOf_133 ?_
          refine aw_istore [(0, .ref 1), (1, .int x1), (2, .int x2), (3, .int x3), (4, .int (x4 + 1)), (5, .int x5), (6, .int x6), (7, .int x7), (8, .int x8)] d_X12_factOf_134 (Nat.le_of_ble_eq_true rfl) rfl rfl ?_
          refine aw_iload d_X12_factOf_136 5 rfl ?_
          refine aw_aload_n (i := 0) rfl d_X12_factOf_138 0 rfl ?_
          refine aw_getr (k0 := 89) kc_12 (ws_1 w) (Nat.le_of_ble_eq_true rfl) tw_1831 d_X12_factOf_139 rfl (wr_1_89 w) ?_
          refine aw_iload d_X12_factOf_142 7 rfl ?_
          obtain ⟨b20, k⟩ := k
          refine aw_zald (ws_270 w) b20 d_X12_factOf_144 ?_
          refine aw_if_eq (tgt := 152) d_X12_factOf_145 rfl (fun c21 => ?_) (fun c21 => ?_)
          · have k := k.1 c21
            refine aw_iconst (v := 1) d_X12_factOf_152 ic_1 ?_
            refine aw_iadd d_X12_factOf_153 ?_
            refine aw_istore [(0, .ref 1), (1, .int x1), (2, .int x2), (3, .int x3), (4, .int (x4 + 1)), (5, .int (x5 + 1)), (6, .int x6), (7, .int x7), (8, .int x8)] d_X12_factOf_154 (Nat.le_of_ble_eq_true rfl) rfl rfl ?_
            refine aw_iinc (v := (x6 + 1)) [(0, .ref 1), (1, .int x1), (2, .int x2), (3, .int x3), (4, .int (x4 + 1)), (5, .int (x5 + 1)), (6, .int (x6 + 1)), (7, .int x7), (8, .int x8)] d_X12_factOf_156 6 rfl rfl (Nat.le_of_ble_eq_true rfl) rfl rfl ?_
            refine aw_goto (tgt := 9) d_X12_factOf_159 rfl ?_
            exact aw_lvp [0, 1, 2, 3, 4, 5, 6] [(0, .ref 1), (1, .int x1), (2, .int x2), (3, .int x3), (4, .int (x4 + 1)), (5, .int (x5 + 1)), (6, .int (x6 + 1))] rfl k
          · have k := k.2 c21
            refine aw_iconst (v := 0) d_X12_factOf_148 ic_0 ?_
            refine aw_goto (tgt := 153) d_X12_factOf_149 rfl ?_
            refine aw_iadd d_X12_factOf_153 ?_
            refine aw_istore [(0, .ref 1), (1, .int x1), (2, .int x2), (3, .int x3), (4, .int (x4 + 1)), (5, .int (x5 + 0)), (6, .int x6), (7, .int x7), (8, .int x8)] d_X12_factOf_154 (Nat.le_of_ble_eq_true rfl) rfl rfl ?_
            refine aw_iinc (v := (x6 + 1)) [(0, .ref 1), (1, .int x1), (2, .int x2), (3, .int x3), (4, .int (x4 + 1)), (5, .int (x5 + 0)), (6, .int (x6 + 1)), (7, .int x7), (8, .int x8)] d_X12_factOf_156 6 rfl rfl (Nat.le_of_ble_eq_true rfl) rfl rfl ?_
            refine aw_goto (tgt := 9) d_X12_factOf_159 rfl ?_
            exact aw_lvp [0, 1, 2, 3, 4, 5, 6] [(0, .ref 1), (1, .int x1), (2, .int x2), (3, .int x3), (4, .int (x4 + 1)), (5, .int (x5 + 0)), (6, .int (x6 + 1))] rfl k
      · have k := k.2 c15
        refine aw_aload_n (i := 0) rfl d_X12_factOf_102 0 rfl ?_
        refine aw_getr (k0 := 90) kc_12 (ws_1 w) (Nat.le_of_ble_eq_true rfl) tw_1832 d_X12_factOf_103 rfl (wr_1_90 w) ?_
        refine aw_iload d_X12_factOf_106 6 rfl ?_
        obtain ⟨b22, k⟩ := k
        refine aw_iald (ws_271 w) b22 d_X12_factOf_108 ?_
        refine aw_iload_n (i := 3) rfl d_X12_factOf_109 3 rfl ?_
        refine aw_icmp_gt (tgt := 116) d_X12_factOf_110 rfl (fun c23 => ?_) (fun c23 => ?_)
        · have k := k.1 c23
          refine aw_iload d_X12_factOf_116 4 rfl ?_
          refine aw_aload_n (i := 0) rfl d_X12_factOf_118 0 rfl ?_
          refine aw_getr (k0 := 89) kc_12 (ws_1 w) (Nat.le_of_ble_eq_true rfl) tw_1831 d_X12_factOf_119 rfl (wr_1_89 w) ?_
          refine aw_iload d_X12_factOf_122 7 rfl ?_
          obtain ⟨b24, k⟩ := k
          refine aw_zald (ws_270 w) b24 d_X12_factOf_124 ?_
          refine aw_if_eq (tgt := 132) d_X12_factOf_125 rfl (fun c25 => ?_) (fun c25 => ?_)
          · have k := k.1 c25
            refine aw_iconst (v := 0) d_X12_factOf_132 ic_0 ?_
            refine aw_iadd d_X12_factOf_133 ?_
            refine aw_istore [(0, .ref 1), (1, .int x1), (2, .int x2), (3, .int x3), (4, .int (x4 + 0)), (5, .int x5), (6, .int x6), (7, .int x7), (8, .int x8)] d_X12_factOf_134 (Nat.le_of_ble_eq_true rfl) rfl rfl ?_
            refine aw_iload d_X12_factOf_136 5 rfl ?_
            refine aw_aload_n (i := 0) rfl d_X12_factOf_138 0 rfl ?_
            refine aw_getr (k0 := 89) kc_12 (ws_1 w) (Nat.le_of_ble_eq_true rfl) tw_1831 d_X12_factOf_139 rfl (wr_1_89 w) ?_
            refine aw_iload d_X12_factOf_142 7 rfl ?_
            obtain ⟨b26, k⟩ := k
            refine aw_zald (ws_270 w) b26 d_X12_factOf_144 ?_
            refine aw_if_eq (tgt := 152) d_X12_factOf_145 rfl (fun c27 => ?_) (fun c27 => ?_)
            · have k := k.1 c27
              refine aw_iconst (v := 1) d_X12_factOf_152 ic_1 ?_
              refine aw_iadd d_X12_factOf_153 ?_
              refine aw_istore [(0, .ref 1), (1, .int x1), (2, .int x2), (3, .int x3), (4, .int (x4 + 0)), (5, .int (x5 + 1)), (6, .int x6), (7, .int x7), (8, .int x8)] d_X12_factOf_154 (Nat.le_of_ble_eq_true rfl) rfl rfl ?_
              refine aw_iinc (v := (x6 + 1)) [(0, .ref 1), (1, .int x1), (2, .int x2), (3, .int x3), (4, .int (x4 + 0)), (5, .int (x5 + 1)), (6, .int (x6 + 1)), (7, .int x7), (8, .int x8)] d_X12_factOf_156 6 rfl rfl (Nat.le_of_ble_eq_true rfl) rfl rfl ?_
              refine aw_goto (tgt := 9) d_X12_factOf_159 rfl ?_
              exact aw_lvp [0, 1, 2, 3, 4, 5, 6] [(0, .ref 1), (1, .int x1), (2, .int x2), (3, .int x3), (4, .int (x4 + 0)), (5, .int (x5 + 1)), (6, .int (x6 + 1))] rfl k
            · have k := k.2 c27
              refine aw_iconst (v := 0) d_X12_factOf_148 ic_0 ?_
              refine aw_goto (tgt := 153) d_X12_factOf_149 rfl ?_
              refine aw_iadd d_X12_factOf_153 ?_
              refine aw_istore [(0, .ref 1), (1, .int x1), (2, .int x2), (3, .int x3), (4, .int (x4 + 0)), (5, .int (x5 + 0)), (6, .int x6), (7, .int x7), (8, .int x8)] d_X12_factOf_154 (Nat.le_of_ble_eq_true rfl) rfl rfl ?_
              refine aw_iinc (v := (x6 + 1)) [(0, .ref 1), (1, .int x1), (2, .int x2), (3, .int x3), (4, .int (x4 + 0)), (5, .int (x5 + 0)), (6, .int (x6 + 1)), (7, .int x7), (8, .int x8)] d_X12_factOf_156 6 rfl rfl (Nat.le_of_ble_eq_true rfl) rfl rfl ?_
              refine aw_goto (tgt := 9) d_X12_factOf_159 rfl ?_
              exact aw_lvp [0, 1, 2, 3, 4, 5, 6] [(0, .ref 1), (1, .int x1), (2, .int x2), (3, .int x3), (4, .int (x4 + 0)), (5, .int (x5 + 0)), (6, .int (x6 + 1))] rfl k
          · have k := k.2 c25
            refine aw_iconst (v := 1) d_X12_factOf_128 ic_1 ?_
            refine aw_goto (tgt := 133) d_X12_factOf_129 rfl ?_
            refine aw_iadd d_X12_factOf_133 ?_
            refine aw_istore [(0, .ref 1), (1, .int x1), (2, .int x2), (3, .int x3), (4, .int (x4 + 1)), (5, .int x5), (6, .int x6), (7, .int x7), (8, .int x8)] d_X12_factOf_134 (Nat.le_of_ble_eq_true rfl) rfl rfl ?_
            refine aw_iload d_X12_factOf_136 5 rfl ?_
            refine aw_aload_n (i := 0) rfl d_X12_factOf_138 0 rfl ?_
            refine aw_getr (k0 := 89) kc_12 (ws_1 w) (Nat.le_of_ble_eq_true rfl) tw_1831 d_X12_factOf_139 rfl (wr_1_89 w) ?_
            refine aw_iload d_X12_factOf_142 7 rfl ?_
            obtain ⟨b28, k⟩ := k
            refine aw_zald (ws_270 w) b28 d_X12_factOf_144 ?_
            refine aw_if_eq (tgt := 152) d_X12_factOf_145 rfl (fun c29 => ?_) (fun c29 => ?_)
            · have k := k.1 c29
              refine aw_iconst (v := 1) d_X12_factOf_152 ic_1 ?_
              refine aw_iadd d_X12_factOf_153 ?_
              refine aw_istore [(0, .ref 1), (1, .int x1), (2, .int x2), (3, .int x3), (4, .int (x4 + 1)), (5, .int (x5 + 1)), (6, .int x6), (7, .int x7), (8, .int x8)] d_X12_factOf_154 (Nat.le_of_ble_eq_true rfl) rfl rfl ?_
              refine aw_iinc (v := (x6 + 1)) [(0, .ref 1), (1, .int x1), (2, .int x2), (3, .int x3), (4, .int (x4 + 1)), (5, .int (x5 + 1)), (6, .int (x6 + 1)), (7, .int x7), (8, .int x8)] d_X12_factOf_156 6 rfl rfl (Nat.le_of_ble_eq_true rfl) rfl rfl ?_
              refine aw_goto (tgt := 9) d_X12_factOf_159 rfl ?_
              exact aw_lvp [0, 1, 2, 3, 4, 5, 6] [(0, .ref 1), (1, .int x1), (2, .int x2), (3, .int x3), (4, .int (x4 + 1)), (5, .int (x5 + 1)), (6, .int (x6 + 1))] rfl k
            · have k := k.2 c29
              refine aw_iconst (v := 0) d_X12_factOf_148 ic_0 ?_
              refine aw_goto (tgt := 153) d_X12_factOf_149 rfl ?_
              refine aw_iadd d_X12_factOf_153 ?_
              refine aw_istore [(0, .ref 1), (1, .int x1), (2, .int x2), (3, .int x3), (4, .int (x4 + 1)), (5, .int (x5 + 0)), (6, .int x6), (7, .int x7), (8, .int x8)] d_X12_factOf_154 (Nat.le_of_ble_eq_true rfl) rfl rfl ?_
              refine aw_iinc (v := (x6 + 1)) [(0, .ref 1), (1, .int x1), (2, .int x2), (3, .int x3), (4, .int (x4 + 1)), (5, .int (x5 + 0)), (6, .int (x6 + 1)), (7, .int x7), (8, .int x8)] d_X12_factOf_156 6 rfl rfl (Nat.le_of_ble_eq_true rfl) rfl rfl ?_
              refine aw_goto (tgt := 9) d_X12_factOf_159 rfl ?_
              exact aw_lvp [0, 1, 2, 3, 4, 5, 6] [(0, .ref 1), (1, .int x1), (2, .int x2), (3, .int x3), (4, .int (x4 + 1)), (5, .int (x5 + 0)), (6, .int (x6 + 1))] rfl k
        · have k := k.2 c23
          refine aw_goto (tgt := 156) d_X12_factOf_113 rfl ?_
          refine aw_iinc (v := (x6 + 1)) [(0, .ref 1), (1, .int x1), (2, .int x2), (3, .int x3), (4, .int x4), (5, .int x5), (6, .int (x6 + 1)), (7, .int x7), (8, .int x8)] d_X12_factOf_156 6 rfl rfl (Nat.le_of_ble_eq_true rfl) rfl rfl ?_
          refine aw_goto (tgt := 9) d_X12_factOf_159 rfl ?_
          exact aw_lvp [0, 1, 2, 3, 4, 5, 6] [(0, .ref 1), (1, .int x1), (2, .int x2), (3, .int x3), (4, .int x4), (5, .int x5), (6, .int (x6 + 1))] rfl k
  · have k := k.2 c12
    refine aw_aload_n (i := 0) rfl d_X12_factOf_31 0 rfl ?_
    refine aw_getr (k0 := 87) kc_12 (ws_1 w) (Nat.le_of_ble_eq_true rfl) tw_1829 d_X12_factOf_32 rfl (wr_1_87 w) ?_
    refine aw_iload d_X12_factOf_35 8 rfl ?_
    obtain ⟨b30, k⟩ := k
    refine aw_iald (ws_268 w) b30 d_X12_factOf_37 ?_
    refine aw_iload d_X12_factOf_38 6 rfl ?_
    refine aw_icmp_ne (tgt := 80) d_X12_factOf_40 rfl (fun c31 => ?_) (fun c31 => ?_)
    · have k := k.1 c31
      refine aw_iinc (v := (x8 + 1)) [(0, .ref 1), (1, .int x1), (2, .int x2), (3, .int x3), (4, .int x4), (5, .int x5), (6, .int x6), (7, .int x7), (8, .int (x8 + 1))] d_X12_factOf_80 8 rfl rfl (Nat.le_of_ble_eq_true rfl) rfl rfl ?_
      refine aw_goto (tgt := 22) d_X12_factOf_83 rfl ?_
      exact k
    · have k := k.2 c31
      refine aw_aload_n (i := 0) rfl d_X12_factOf_43 0 rfl ?_
      refine aw_getr (k0 := 85) kc_12 (ws_1 w) (Nat.le_of_ble_eq_true rfl) tw_1827 d_X12_factOf_44 rfl (wr_1_85 w) ?_
      refine aw_iload d_X12_factOf_47 8 rfl ?_
      obtain ⟨b32, k⟩ := k
      refine aw_iald (ws_266 w) b32 d_X12_factOf_49 ?_
      refine aw_iload_n (i := 1) rfl d_X12_factOf_50 1 rfl ?_
      refine aw_icmp_ne (tgt := 80) d_X12_factOf_51 rfl (fun c33 => ?_) (fun c33 => ?_)
      · have k := k.1 c33
        refine aw_iinc (v := (x8 + 1)) [(0, .ref 1), (1, .int x1), (2, .int x2), (3, .int x3), (4, .int x4), (5, .int x5), (6, .int x6), (7, .int x7), (8, .int (x8 + 1))] d_X12_factOf_80 8 rfl rfl (Nat.le_of_ble_eq_true rfl) rfl rfl ?_
        refine aw_goto (tgt := 22) d_X12_factOf_83 rfl ?_
        exact k
      · have k := k.2 c33
        refine aw_aload_n (i := 0) rfl d_X12_factOf_54 0 rfl ?_
        refine aw_getr (k0 := 86) kc_12 (ws_1 w) (Nat.le_of_ble_eq_true rfl) tw_1828 d_X12_factOf_55 rfl (wr_1_86 w) ?_
        refine aw_iload d_X12_factOf_58 8 rfl ?_
        obtain ⟨b34, k⟩ := k
        refine aw_iald (ws_267 w) b34 d_X12_factOf_60 ?_
        refine aw_iload_n (i := 2) rfl d_X12_factOf_61 2 rfl ?_
        refine aw_icmp_ne (tgt := 80) d_X12_factOf_62 rfl (fun c35 => ?_) (fun c35 => ?_)
        · have k := k.1 c35
          refine aw_iinc (v := (x8 + 1)) [(0, .ref 1), (1, .int x1), (2, .int x2), (3, .int x3), (4, .int x4), (5, .int x5), (6, .int x6), (7, .int x7), (8, .int (x8 + 1))] d_X12_factOf_80 8 rfl rfl (Nat.le_of_ble_eq_true rfl) rfl rfl ?_
          refine aw_goto (tgt := 22) d_X12_factOf_83 rfl ?_
          exact k
        · have k := k.2 c35
          refine aw_aload_n (i := 0) rfl d_X12_factOf_65 0 rfl ?_
          refine aw_getr (k0 := 88) kc_12 (ws_1 w) (Nat.le_of_ble_eq_true rfl) tw_1830 d_X12_factOf_66 rfl (wr_1_88 w) ?_
          refine aw_iload d_X12_factOf_69 8 rfl ?_
          obtain ⟨b36, k⟩ := k
          refine aw_iald (ws_269 w) b36 d_X12_factOf_71 ?_
          refine aw_iload_n (i := 3) rfl d_X12_factOf_72 3 rfl ?_
          refine aw_icmp_gt (tgt := 80) d_X12_factOf_73 rfl (fun c37 => ?_) (fun c37 => ?_)
          · have k := k.1 c37
            refine aw_iinc (v := (x8 + 1)) [(0, .ref 1), (1, .int x1), (2, .int x2), (3, .int x3), (4, .int x4), (5, .int x5), (6, .int x6), (7, .int x7), (8, .int (x8 + 1))] d_X12_factOf_80 8 rfl rfl (Nat.le_of_ble_eq_true rfl) rfl rfl ?_
            refine aw_goto (tgt := 22) d_X12_factOf_83 rfl ?_
            exact k
          · have k := k.2 c37
            refine aw_iload d_X12_factOf_76 8 rfl ?_
            refine aw_istore [(0, .ref 1), (1, .int x1), (2, .int x2), (3, .int x3), (4, .int x4), (5, .int x5), (6, .int x6), (7, .int x8), (8, .int x8)] d_X12_factOf_78 (Nat.le_of_ble_eq_true rfl) rfl rfl ?_
            refine aw_iinc (v := (x8 + 1)) [(0, .ref 1), (1, .int x1), (2, .int x2), (3, .int x3), (4, .int x4), (5, .int x5), (6, .int x6), (7, .int x8), (8, .int (x8 + 1))] d_X12_factOf_80 8 rfl rfl (Nat.le_of_ble_eq_true rfl) rfl rfl ?_
            refine aw_goto (tgt := 22) d_X12_factOf_83 rfl ?_
            exact k
theorem t_X12_like (d : Nat) (h : Hp_) (w : Wf h) (x1 : Int32) (x2 : Int32) (K : Int32 → Hp_ → Prop) (k : vp_in x1 8 ∧ (vp_in x2 8 ∧ (AW (m_X12_like (d + 0) 0 0) 0 0 21 [(3, .int (h_i h 278 x1.toNatClampNeg)), (4, .int (h_i h 279 x2.toNatClampNeg)), (5, .int 0), (6, .int 0)] [] h (kI K)))) : Ci (m_X12_like (d + 0) 0 0) [.ref 1, .int x1, .int x2] h K := by
  refine Ct.of (fun _ _ _ => trivial) rfl (Nat.le_of_ble_eq_true rfl) ?_
  show AW (m_X12_like (d + 0) 0 0) 0 0 0 [(0, .ref 1), (1, .int x1), (2, .int x2)] [] h (kI K)
  refine aw_aload_n (i := 0) rfl d_X12_like_0 0 rfl ?_
  refine aw_getr (k0 := 99) kc_12 (ws_1 w) (Nat.le_of_ble_eq_true rfl) tw_1841 d_X12_like_1 rfl (wr_1_99 w) ?_
  refine aw_iload_n (i := 1) rfl d_X12_like_4 1 rfl ?_
  obtain ⟨b1, k⟩ := k
  refine aw_iald (ws_278 w) b1 d_X12_like_5 ?_
  refine aw_istore_n (i := 3) rfl [(0, .ref 1), (1, .int x1), (2, .int x2), (3, .int (h_i h 278 x1.toNatClampNeg))] d_X12_like_6 (Nat.le_of_ble_eq_true rfl) rfl rfl ?_
  refine aw_aload_n (i := 0) rfl d_X12_like_7 0 rfl ?_
  refine aw_getr (k0 := 100) kc_12 (ws_1 w) (Nat.le_of_ble_eq_true rfl) tw_1842 d_X12_like_8 rfl (wr_1_100 w) ?_
  refine aw_iload_n (i := 2) rfl d_X12_like_11 2 rfl ?_
  obtain ⟨b2, k⟩ := k
  refine aw_iald (ws_279 w) b2 d_X12_like_12 ?_
  refine aw_istore [(0, .ref 1), (1, .int x1), (2, .int x2), (3, .int (h_i h 278 x1.toNatClampNeg)), (4, .int (h_i h 279 x2.toNatClampNeg))] d_X12_like_13 (Nat.le_of_ble_eq_true rfl) rfl rfl ?_
  refine aw_iconst (v := 0) d_X12_like_15 ic_0 ?_
  refine aw_istore [(0, .ref 1), (1, .int x1), (2, .int x2), (3, .int (h_i h 278 x1.toNatClampNeg)), (4, .int (h_i h 279 x2.toNatClampNeg)), (5, .int 0)] d_X12_like_16 (Nat.le_of_ble_eq_true rfl) rfl rfl ?_
  refine aw_iconst (v := 0) d_X12_like_18 ic_0 ?_
  refine aw_istore [(0, .ref 1), (1, .int x1), (2, .int x2), (3, .int (h_i h 278 x1.toNatClampNeg)), (4, .int (h_i h 279 x2.toNatClampNeg)), (5, .int 0), (6, .int 0)] d_X12_like_19 (Nat.le_of_ble_eq_true rfl) rfl rfl ?_
  exact aw_lvp [3, 4, 5, 6] [(3, .int (h_i h 278 x1.toNatClampNeg)), (4, .int (h_i h 279 x2.toNatClampNeg)), (5, .int 0), (6, .int 0)] rfl k
theorem t_X12_like_21 (d : Nat) (h : Hp_) (x3 : Int32) (x4 : Int32) (x5 : Int32) (x6 : Int32) (K : Int32 → Hp_ → Prop) (k : (5 ≤ x6 → K x5 h) ∧ (¬ 5 ≤ x6 → (¬ (x3 - x3 / 10 * 10) = (x4 - x4 / 10 * 10) → AW (m_X12_like (d + 0) 0 0) 0 0 21 [(3, .int (x3 / 10)), (4, .int (x4 / 10)), (5, .int (x5 + 0)), (6, .int (x6 + 1))] [] h (kI K)) ∧ ((x3 - x3 / 10 * 10) = (x4 - x4 / 10 * 10) → AW (m_X12_like (d + 0) 0 0) 0 0 21 [(3, .int (x3 / 10)), (4, .int (x4 / 10)), (5, .int (x5 + 1)), (6, .int (x6 + 1))] [] h (kI K)))) : AW (m_X12_like (d + 0) 0 0) 0 0 21 [(3, .int x3), (4, .int x4), (5, .int x5), (6, .int x6)] [] h (kI K) := by
  refine aw_iload d_X12_like_21 3 rfl ?_
  refine aw_iconst (v := 5) d_X12_like_23 ic_5 ?_
  refine aw_icmp_ge (tgt := 67) d_X12_like_24 rfl (fun c3 => ?_) (fun c3 => ?_)
  · have k := k.1 c3
    refine aw_iload d_X12_like_67 2 rfl ?_
    exact aw_iret rfl d_X12_like_69 ⟨Nat.le_refl _, Nat.le_refl _⟩ ⟨_, rfl, k⟩
  · have k := k.2 c3
    refine aw_iload d_X12_like_27 2 rfl ?_
    refine aw_iload_n (i := 3) rfl d_X12_like_29 0 rfl ?_
    refine aw_bipush (v := 10) d_X12_like_30 ib_10 ?_
    refine aw_irem d_X12_like_32 (by decide) ?_
    refine aw_iload d_X12_like_33 1 rfl ?_
    refine aw_bipush (v := 10) d_X12_like_35 ib_10 ?_
    refine aw_irem d_X12_like_37 (by decide) ?_
    refine aw_icmp_ne (tgt := 45) d_X12_like_38 rfl (fun c4 => ?_) (fun c4 => ?_)
    · have k := k.1 c4
      refine aw_iconst (v := 0) d_X12_like_45 ic_0 ?_
      refine aw_iadd d_X12_like_46 ?_
      refine aw_istore [(3, .int x3), (4, .int x4), (5, .int (x5 + 0)), (6, .int x6)] d_X12_like_47 (Nat.le_of_ble_eq_true rfl) rfl rfl ?_
      refine aw_iload_n (i := 3) rfl d_X12_like_49 0 rfl ?_
      refine aw_bipush (v := 10) d_X12_like_50 ib_10 ?_
      refine aw_idiv d_X12_like_52 (by decide) ?_
      refine aw_istore_n (i := 3) rfl [(3, .int (x3 / 10)), (4, .int x4), (5, .int (x5 + 0)), (6, .int x6)] d_X12_like_53 (Nat.le_of_ble_eq_true rfl) rfl rfl ?_
      refine aw_iload d_X12_like_54 1 rfl ?_
      refine aw_bipush (v := 10) d_X12_like_56 ib_10 ?_
      refine aw_idiv d_X12_like_58 (by decide) ?_
      refine aw_istore [(3, .int (x3 / 10)), (4, .int (x4 / 10)), (5, .int (x5 + 0)), (6, .int x6)] d_X12_like_59 (Nat.le_of_ble_eq_true rfl) rfl rfl ?_
      refine aw_iinc (v := (x6 + 1)) [(3, .int (x3 / 10)), (4, .int (x4 / 10)), (5, .int (x5 + 0)), (6, .int (x6 + 1))] d_X12_like_61 3 rfl rfl (Nat.le_of_ble_eq_true rfl) rfl rfl ?_
      refine aw_goto (tgt := 21) d_X12_like_64 rfl ?_
      exact k
    · have k := k.2 c4
      refine aw_iconst (v := 1) d_X12_like_41 ic_1 ?_
      refine aw_goto (tgt := 46) d_X12_like_42 rfl ?_
      refine aw_iadd d_X12_like_46 ?_
      refine aw_istore [(3, .int x3), (4, .int x4), (5, .int (x5 + 1)), (6, .int x6)] d_X12_like_47 (Nat.le_of_ble_eq_true rfl) rfl rfl ?_
      refine aw_iload_n (i := 3) rfl d_X12_like_49 0 rfl ?_
      refine aw_bipush (v := 10) d_X12_like_50 ib_10 ?_
      refine aw_idiv d_X12_like_52 (by decide) ?_
      refine aw_istore_n (i := 3) rfl [(3, .int (x3 / 10)), (4, .int x4), (5, .int (x5 + 1)), (6, .int x6)] d_X12_like_53 (Nat.le_of_ble_eq_true rfl) rfl rfl ?_
      refine aw_iload d_X12_like_54 1 rfl ?_
      refine aw_bipush (v := 10) d_X12_like_56 ib_10 ?_
      refine aw_idiv d_X12_like_58 (by decide) ?_
      refine aw_istore [(3, .int (x3 / 10)), (4, .int (x4 / 10)), (5, .int (x5 + 1)), (6, .int x6)] d_X12_like_59 (Nat.le_of_ble_eq_true rfl) rfl rfl ?_
      refine aw_iinc (v := (x6 + 1)) [(3, .int (x3 / 10)), (4, .int (x4 / 10)), (5, .int (x5 + 1)), (6, .int (x6 + 1))] d_X12_like_61 3 rfl rfl (Nat.le_of_ble_eq_true rfl) rfl rfl ?_
      refine aw_goto (tgt := 21) d_X12_like_64 rfl ?_
      exact k
theorem t_X12_fairs (d : Nat) (h : Hp_) (w : Wf h)  (K : Hp_ → Prop) (k : K (h_im h 1 119 0)) : Cv (m_X12_fairs (d + 0) 0 0) [.ref 1] h K := by
  refine Ct.of (fun _ _ _ => trivial) rfl (Nat.le_of_ble_eq_true rfl) ?_
  show AW (m_X12_fairs (d + 0) 0 0) 0 0 0 [(0, .ref 1)] [] h (kV K)
  refine aw_aload_n (i := 0) rfl d_X12_fairs_0 0 rfl ?_
  refine aw_iconst (v := 0) d_X12_fairs_1 ic_0 ?_
  refine aw_puti (k0 := 119) kc_12 (ws_1 w) (Nat.le_of_ble_eq_true rfl) tw_1861 d_X12_fairs_2 rfl rfl nf_i ?_
  exact aw_vret rfl d_X12_fairs_5 ⟨Nat.le_refl _, Nat.le_refl _⟩ ⟨rfl, k⟩
theorem t_X12_wanted (d : Nat) (h : Hp_) (x0 : Int32) (x1 : Int32) (K : Int32 → Hp_ → Prop) (k : K ((x0 >>> ((2 * x1) &&& 31)) &&& 3) h) : Ci (m_X12_wanted (d + 0) 0 0) [.int x0, .int x1] h K := by
  refine Ct.of (fun _ _ _ => trivial) rfl (Nat.le_of_ble_eq_true rfl) ?_
  show AW (m_X12_wanted (d + 0) 0 0) 0 0 0 [(0, .int x0), (1, .int x1)] [] h (kI K)
  refine aw_iload_n (i := 0) rfl d_X12_wanted_0 0 rfl ?_
  refine aw_iconst (v := 2) d_X12_wanted_1 ic_2 ?_
  refine aw_iload_n (i := 1) rfl d_X12_wanted_2 1 rfl ?_
  refine aw_imul d_X12_wanted_3 ?_
  refine aw_ishr d_X12_wanted_4 ?_
  refine aw_iconst (v := 3) d_X12_wanted_5 ic_3 ?_
  refine aw_iand d_X12_wanted_6 ?_
  exact aw_iret rfl d_X12_wanted_7 ⟨Nat.le_refl _, Nat.le_refl _⟩ ⟨_, rfl, k⟩
theorem t_X12_codeAll (d : Nat) (h : Hp_)  (K : Int32 → Hp_ → Prop) (k : AW (m_X12_codeAll (d + 0) 0 0) 0 0 4 [(0, .ref 1), (1, .int 0), (2, .int 0)] [] h (kI K)) : Ci (m_X12_codeAll (d + 0) 0 0) [.ref 1] h K := by
  refine Ct.of (fun _ _ _ => trivial) rfl (Nat.le_of_ble_eq_true rfl) ?_
  show AW (m_X12_codeAll (d + 0) 0 0) 0 0 0 [(0, .ref 1)] [] h (kI K)
  refine aw_iconst (v := 0) d_X12_codeAll_0 ic_0 ?_
  refine aw_istore_n (i := 1) rfl [(0, .ref 1), (1, .int 0)] d_X12_codeAll_1 (Nat.le_of_ble_eq_true rfl) rfl rfl ?_
  refine aw_iconst (v := 0) d_X12_codeAll_2 ic_0 ?_
  refine aw_istore_n (i := 2) rfl [(0, .ref 1), (1, .int 0), (2, .int 0)] d_X12_codeAll_3 (Nat.le_of_ble_eq_true rfl) rfl rfl ?_
  exact k
theorem t_X12_codeAll_4 (d : Nat) (h : Hp_) (w : Wf h) (x1 : Int32) (x2 : Int32) (K : Int32 → Hp_ → Prop) (k : ((h_i h 1 119) ≤ x2 → K x1 h) ∧ (¬ (h_i h 1 119) ≤ x2 → vp_in x2 4 ∧ (AW (m_X12_codeAll (d + 0) 0 0) 0 0 4 [(0, .ref 1), (1, .int (x1 ||| ((h_i h 290 x2.toNatClampNeg) <<< ((2 * x2) &&& 31)))), (2, .int (x2 + 1))] [] h (kI K)))) : AW (m_X12_codeAll (d + 0) 0 0) 0 0 4 [(0, .ref 1), (1, .int x1), (2, .int x2)] [] h (kI K) := by
  refine aw_iload_n (i := 2) rfl d_X12_codeAll_4 2 rfl ?_
  refine aw_aload_n (i := 0) rfl d_X12_codeAll_5 0 rfl ?_
  refine aw_geti (k0 := 119) kc_12 (ws_1 w) (Nat.le_of_ble_eq_true rfl) tw_1861 d_X12_codeAll_6 rfl ?_
  refine aw_icmp_ge (tgt := 31) d_X12_codeAll_9 rfl (fun c1 => ?_) (fun c1 => ?_)
  · have k := k.1 c1
    refine aw_iload_n (i := 1) rfl d_X12_codeAll_31 1 rfl ?_
    exact aw_iret rfl d_X12_codeAll_32 ⟨Nat.le_refl _, Nat.le_refl _⟩ ⟨_, rfl, k⟩
  · have k := k.2 c1
    refine aw_iload_n (i := 1) rfl d_X12_codeAll_12 1 rfl ?_
    refine aw_aload_n (i := 0) rfl d_X12_codeAll_13 0 rfl ?_
    refine aw_getr (k0 := 118) kc_12 (ws_1 w) (Nat.le_of_ble_eq_true rfl) tw_1860 d_X12_codeAll_14 rfl (wr_1_118 w) ?_
    refine aw_iload_n (i := 2) rfl d_X12_codeAll_17 2 rfl ?_
    obtain ⟨b2, k⟩ := k
    refine aw_iald (ws_290 w) b2 d_X12_codeAll_18 ?_
    refine aw_iconst (v := 2) d_X12_codeAll_19 ic_2 ?_
    refine aw_iload_n (i := 2) rfl d_X12_codeAll_20 2 rfl ?_
    refine aw_imul d_X12_codeAll_21 ?_
    refine aw_ishl d_X12_codeAll_22 ?_
    refine aw_ior d_X12_codeAll_23 ?_
    refine aw_istore_n (i := 1) rfl [(0, .ref 1), (1, .int (x1 ||| ((h_i h 290 x2.toNatClampNeg) <<< ((2 * x2) &&& 31)))), (2, .int x2)] d_X12_codeAll_24 (Nat.le_of_ble_eq_true rfl) rfl rfl ?_
    refine aw_iinc (v := (x2 + 1)) [(0, .ref 1), (1, .int (x1 ||| ((h_i h 290 x2.toNatClampNeg) <<< ((2 * x2) &&& 31)))), (2, .int (x2 + 1))] d_X12_codeAll_25 2 rfl rfl (Nat.le_of_ble_eq_true rfl) rfl rfl ?_
    refine aw_goto (tgt := 4) d_X12_codeAll_28 rfl ?_
    exact k
theorem t_X12_count (d : Nat) (h : Hp_) (x1 : Int32) (K : Int32 → Hp_ → Prop) (k : AW (m_X12_count (d + 0) 0 0) 0 0 7 [(0, .ref 1), (1, .int x1), (2, .int 0), (3, .int 0), (4, .int 0)] [] h (kI K)) : Ci (m_X12_count (d + 0) 0 0) [.ref 1, .int x1] h K := by
  refine Ct.of (fun _ _ _ => trivial) rfl (Nat.le_of_ble_eq_true rfl) ?_
  show AW (m_X12_count (d + 0) 0 0) 0 0 0 [(0, .ref 1), (1, .int x1)] [] h (kI K)
  refine aw_iconst (v := 0) d_X12_count_0 ic_0 ?_
  refine aw_istore_n (i := 2) rfl [(0, .ref 1), (1, .int x1), (2, .int 0)] d_X12_count_1 (Nat.le_of_ble_eq_true rfl) rfl rfl ?_
  refine aw_iconst (v := 0) d_X12_count_2 ic_0 ?_
  refine aw_istore_n (i := 3) rfl [(0, .ref 1), (1, .int x1), (2, .int 0), (3, .int 0)] d_X12_count_3 (Nat.le_of_ble_eq_true rfl) rfl rfl ?_
  refine aw_iconst (v := 0) d_X12_count_4 ic_0 ?_
  refine aw_istore [(0, .ref 1), (1, .int x1), (2, .int 0), (3, .int 0), (4, .int 0)] d_X12_count_5 (Nat.le_of_ble_eq_true rfl) rfl rfl ?_
  exact k
theorem t_X12_count_7 (d : Nat) (h : Hp_) (w : Wf h) (x1 : Int32) (x2 : Int32) (x3 : Int32) (x4 : Int32) (K : Int32 → Hp_ → Prop) (k : ((h_i h 1 79) ≤ x4 → AW (m_X12_count (d + 0) 0 0) 0 0 43 [(0, .ref 1), (1, .int x1), (2, .int x2), (3, .int x3), (4, .int 0)] [] h (kI K)) ∧ (¬ (h_i h 1 79) ≤ x4 → vp_in x4 80 ∧ (((h_i h 254 x4.toNatClampNeg) = 0 → AW (m_X12_count (d + 0) 0 0) 0 0 7 [(0, .ref 1), (1, .int x1), (2, .int (x2 + 0)), (3, .int x3), (4, .int (x4 + 1))] [] h (kI K)) ∧ (¬ (h_i h 254 x4.toNatClampNeg) = 0 → AW (m_X12_count (d + 0) 0 0) 0 0 7 [(0, .ref 1), (1, .int x1), (2, .int (x2 + 1)), (3, .int x3), (4, .int (x4 + 1))] [] h (kI K))))) : AW (m_X12_count (d + 0) 0 0) 0 0 7 [(0, .ref 1), (1, .int x1), (2, .int x2), (3, .int x3), (4, .int x4)] [] h (kI K) := by
  refine aw_iload d_X12_count_7 4 rfl ?_
  refine aw_aload_n (i := 0) rfl d_X12_count_9 0 rfl ?_
  refine aw_geti (k0 := 79) kc_12 (ws_1 w) (Nat.le_of_ble_eq_true rfl) tw_1821 d_X12_count_10 rfl ?_
  refine aw_icmp_ge (tgt := 40) d_X12_count_13 rfl (fun c1 => ?_) (fun c1 => ?_)
  · have k := k.1 c1
    refine aw_iconst (v := 0) d_X12_count_40 ic_0 ?_
    refine aw_istore [(0, .ref 1), (1, .int x1), (2, .int x2), (3, .int x3), (4, .int 0)] d_X12_count_41 (Nat.le_of_ble_eq_true rfl) rfl rfl ?_
    exact k
  · have k := k.2 c1
    refine aw_iload_n (i := 2) rfl d_X12_count_16 2 rfl ?_
    refine aw_aload_n (i := 0) rfl d_X12_count_17 0 rfl ?_
    refine aw_getr (k0 := 71) kc_12 (ws_1 w) (Nat.le_of_ble_eq_true rfl) tw_1813 d_X12_count_18 rfl (wr_1_71 w) ?_
    refine aw_iload d_X12_count_21 4 rfl ?_
    obtain ⟨b2, k⟩ := k
    refine aw_zald (ws_254 w) b2 d_X12_count_23 ?_
    refine aw_if_eq (tgt := 31) d_X12_count_24 rfl (fun c3 => ?_) (fun c3 => ?_)
    · have k := k.1 c3
      refine aw_iconst (v := 0) d_X12_count_31 ic_0 ?_
      refine aw_iadd d_X12_count_32 ?_
      refine aw_istore_n (i := 2) rfl [(0, .ref 1), (1, .int x1), (2, .int (x2 + 0)), (3, .int x3), (4, .int x4)] d_X12_count_33 (Nat.le_of_ble_eq_true rfl) rfl rfl ?_
      refine aw_iinc (v := (x4 + 1)) [(0, .ref 1), (1, .int x1), (2, .int (x2 + 0)), (3, .int x3), (4, .int (x4 + 1))] d_X12_count_34 4 rfl rfl (Nat.le_of_ble_eq_true rfl) rfl rfl ?_
      refine aw_goto (tgt := 7) d_X12_count_37 rfl ?_
      exact k
    · have k := k.2 c3
      refine aw_iconst (v := 1) d_X12_count_27 ic_1 ?_
      refine aw_goto (tgt := 32) d_X12_count_28 rfl ?_
      refine aw_iadd d_X12_count_32 ?_
      refine aw_istore_n (i := 2) rfl [(0, .ref 1), (1, .int x1), (2, .int (x2 + 1)), (3, .int x3), (4, .int x4)] d_X12_count_33 (Nat.le_of_ble_eq_true rfl) rfl rfl ?_
      refine aw_iinc (v := (x4 + 1)) [(0, .ref 1), (1, .int x1), (2, .int (x2 + 1)), (3, .int x3), (4, .int (x4 + 1))] d_X12_count_34 4 rfl rfl (Nat.le_of_ble_eq_true rfl) rfl rfl ?_
      refine aw_goto (tgt := 7) d_X12_count_37 rfl ?_
      exact k
theorem t_X12_count_43 (d : Nat) (h : Hp_) (w : Wf h) (x1 : Int32) (x2 : Int32) (x3 : Int32) (x4 : Int32) (K : Int32 → Hp_ → Prop) (k : ((h_i h 1 127) ≤ x4 → (x1 = 0 → K (h_i h 1 0) h) ∧ ((x1 = 1 → K (h_i h 1 6) h) ∧ ((x1 = 2 → K (h_i h 1 7) h) ∧ ((x1 = 3 → K (h_i h 1 42) h) ∧ ((x1 = 4 → K (h_i h 1 63) h) ∧ ((x1 = 5 → K (h_i h 1 79) h) ∧ ((x1 = 6 → K x2 h) ∧ ((x1 = 7 → vp_in 0 2 ∧ (K (h_i h 235 (0 : Int32).toNatClampNeg) h)) ∧ ((x1 = 8 → K (h_i h 1 80) h) ∧ ((x1 = 9 → K (h_i h 1 96) h) ∧ ((x1 = 10 → K (h_i h 1 97) h) ∧ ((x1 = 11 → K (h_i h 1 101) h) ∧ ((x1 = 12 → K (h_i h 1 102) h) ∧ ((x1 = 13 → K (h_i h 1 108) h) ∧ ((x1 = 14 → K (h_i h 1 119) h) ∧ ((x1 = 15 → vp_in 1 2 ∧ (K (h_i h 235 (1 : Int32).toNatClampNeg) h)) ∧ ((x1 = 16 → K (h_i h 1 127) h) ∧ ((x1 = 17 → K x3 h) ∧ ((x1 = 18 → K (h_i h 1 32) h) ∧ ((¬ x1 = 0 ∧ ¬ x1 = 1 ∧ ¬ x1 = 2 ∧ ¬ x1 = 3 ∧ ¬ x1 = 4 ∧ ¬ x1 = 5 ∧ ¬ x1 = 6 ∧ ¬ x1 = 7 ∧ ¬ x1 = 8 ∧ ¬ x1 = 9 ∧ ¬ x1 = 10 ∧ ¬ x1 = 11 ∧ ¬ x1 = 12 ∧ ¬ x1 = 13 ∧ ¬ x1 = 14 ∧ ¬ x1 = 15 ∧ ¬ x1 = 16 ∧ ¬ x1 = 17 ∧ ¬ x1 = 18 → K (-1) h))))))))))))))))))))) ∧ (¬ (h_i h 1 127) ≤ x4 → vp_in x4 600 ∧ (AW (m_X12_count (d + 0) 0 0) 0 0 43 [(0, .ref 1), (1, .int x1), (2, .int x2), (3, .int (x3 + (h_i h 296 x4.toNatClampNeg))), (4, .int (x4 + 1))] [] h (kI K)))) : AW (m_X12_count (d + 0) 0 0) 0 0 43 [(0, .ref 1), (1, .int x1), (2, .int x2), (3, .int x3), (4, .int x4)] [] h (kI K) := by
  refine aw_iload d_X12_count_43 4 rfl ?_
  refine aw_aload_n (i := 0) rfl d_X12_count_45 0 rfl ?_
  refine aw_geti (k0 := 127) kc_12 (ws_1 w) (Nat.le_of_ble_eq_true rfl) tw_1869 d_X12_count_46 rfl ?_
  refine aw_icmp_ge (tgt := 68) d_X12_count_49 rfl (fun c4 => ?_) (fun c4 => ?_)
  · have k := k.1 c4
    refine aw_iload_n (i := 1) rfl d_X12_count_68 1 rfl ?_
    by_cases e5 : x1 = 0
    · refine aw_tableIn (off := 91) (tgt := 160) d_X12_count_69 (by rw [e5]; decide) (by rw [e5]; decide) (by rw [e5]; decide) rfl ?_
      have k := k.1 e5
      refine aw_aload_n (i := 0) rfl d_X12_count_160 0 rfl ?_
      refine aw_geti (k0 := 0) kc_12 (ws_1 w) (Nat.le_of_ble_eq_true rfl) tw_1742 d_X12_count_161 rfl ?_
      exact aw_iret rfl d_X12_count_164 ⟨Nat.le_refl _, Nat.le_refl _⟩ ⟨_, rfl, k⟩
    · have k := k.2
      by_cases e6 : x1 = 1
      · refine aw_tableIn (off := 96) (tgt := 165) d_X12_count_69 (by rw [e6]; decide) (by rw [e6]; decide) (by rw [e6]; decide) rfl ?_
        have k := k.1 e6
        refine aw_aload_n (i := 0) rfl d_X12_count_165 0 rfl ?_
        refine aw_geti (k0 := 6) kc_12 (ws_1 w) (Nat.le_of_ble_eq_true rfl) tw_1748 d_X12_count_166 rfl ?_
        exact aw_iret rfl d_X12_count_169 ⟨Nat.le_refl _, Nat.le_refl _⟩ ⟨_, rfl, k⟩
      · have k := k.2
        by_cases e7 : x1 = 2
        · refine aw_tableIn (off := 101) (tgt := 170) d_X12_count_69 (by rw [e7]; decide) (by rw [e7]; decide) (by rw [e7]; decide) rfl ?_
          have k := k.1 e7
          refine aw_aload_n (i := 0) rfl d_X12_count_170 0 rfl ?_
          refine aw_geti (k0 := 7) kc_12 (ws_1 w) (Nat.le_of_ble_eq_true rfl) tw_1749 d_X12_count_171 rfl ?_
          exact aw_iret rfl d_X12_count_174 ⟨Nat.le_refl _, Nat.le_refl _⟩ ⟨_, rfl, k⟩
        · have k := k.2
          by_cases e8 : x1 = 3
          · refine aw_tableIn (off := 106) (tgt := 175) d_X12_count_69 (by rw [e8]; decide) (by rw [e8]; decide) (by rw [e8]; decide) rfl ?_
            have k := k.1 e8
            refine aw_aload_n (i := 0) rfl d_X12_count_175 0 rfl ?_
            refine aw_geti (k0 := 42) kc_12 (ws_1 w) (Nat.le_of_ble_eq_true rfl) tw_1784 d_X12_count_176 rfl ?_
            exact aw_iret rfl d_X12_count_179 ⟨Nat.le_refl _, Nat.le_refl _⟩ ⟨_, rfl, k⟩
          · have k := k.2
            by_cases e9 : x1 = 4
            · refine aw_tableIn (off := 111) (tgt := 180) d_X12_count_69 (by rw [e9]; decide) (by rw [e9]; decide) (by rw [e9]; decide) rfl ?_
              have k := k.1 e9
              refine aw_aload_n (i := 0) rfl d_X12_count_180 0 rfl ?_
              refine aw_geti (k0 := 63) kc_12 (ws_1 w) (Nat.le_of_ble_eq_true rfl) tw_1805 d_X12_count_181 rfl ?_
              exact aw_iret rfl d_X12_count_184 ⟨Nat.le_refl _, Nat.le_refl _⟩ ⟨_, rfl, k⟩
            · have k := k.2
              by_cases e10 : x1 = 5
              · refine aw_tableIn (off := 116) (tgt := 185) d_X12_count_69 (by rw [e10]; decide) (by rw [e10]; decide) (by rw [e10]; decide) rfl ?_
                have k := k.1 e10
                refine aw_aload_n (i := 0) rfl d_X12_count_185 0 rfl ?_
                refine aw_geti (k0 := 79) kc_12 (ws_1 w) (Nat.le_of_ble_eq_true rfl) tw_1821 d_X12_count_186 rfl ?_
                exact aw_iret rfl d_X12_count_189 ⟨Nat.le_refl _, Nat.le_refl _⟩ ⟨_, rfl, k⟩
              · have k := k.2
                by_cases e11 : x1 = 6
                · refine aw_tableIn (off := 121) (tgt := 190) d_X12_count_69 (by rw [e11]; decide) (by rw [e11]; decide) (by rw [e11]; decide) rfl ?_
                  have k := k.1 e11
                  refine aw_iload_n (i := 2) rfl d_X12_count_190 2 rfl ?_
                  exact aw_iret rfl d_X12_count_191 ⟨Nat.le_refl _, Nat.le_refl _⟩ ⟨_, rfl, k⟩
                · have k := k.2
                  by_cases e12 : x1 = 7
                  · refine aw_tableIn (off := 123) (tgt := 192) d_X12_count_69 (by rw [e12]; decide) (by rw [e12]; decide) (by rw [e12]; decide) rfl ?_
                    have k := k.1 e12
                    refine aw_aload_n (i := 0) rfl d_X12_count_192 0 rfl ?_
                    refine aw_getr (k0 := 49) kc_12 (ws_1 w) (Nat.le_of_ble_eq_true rfl) tw_1791 d_X12_count_193 rfl (wr_1_49 w) ?_
                    refine aw_iconst (v := 0) d_X12_count_196 ic_0 ?_
                    obtain ⟨b13, k⟩ := k
                    refine aw_iald (ws_235 w) b13 d_X12_count_197 ?_
                    exact aw_iret rfl d_X12_count_198 ⟨Nat.le_refl _, Nat.le_refl _⟩ ⟨_, rfl, k⟩
                  · have k := k.2
                    by_cases e14 : x1 = 8
                    · refine aw_tableIn (off := 130) (tgt := 199) d_X12_count_69 (by rw [e14]; decide) (by rw [e14]; decide) (by rw [e14]; decide) rfl ?_
                      have k := k.1 e14
                      refine aw_aload_n (i := 0) rfl d_X12_count_199 0 rfl ?_
                      refine aw_geti (k0 := 80) kc_12 (ws_1 w) (Nat.le_of_ble_eq_true rfl) tw_1822 d_X12_count_200 rfl ?_
                      exact aw_iret rfl d_X12_count_203 ⟨Nat.le_refl _, Nat.le_refl _⟩ ⟨_, rfl, k⟩
                    · have k := k.2
                      by_cases e15 : x1 = 9
                      · refine aw_tableIn (off := 135) (tgt := 204) d_X12_count_69 (by rw [e15]; decide) (by rw [e15]; decide) (by rw [e15]; decide) rfl ?_
                        have k := k.1 e15
                        refine aw_aload_n (i := 0) rfl d_X12_count_204 0 rfl ?_
                        refine aw_geti (k0 := 96) kc_12 (ws_1 w) (Nat.le_of_ble_eq_true rfl) tw_1838 d_X12_count_205 rfl ?_
                        exact aw_iret rfl d_X12_count_208 ⟨Nat.le_refl _, Nat.le_refl _⟩ ⟨_, rfl, k⟩
                      · have k := k.2
                        by_cases e16 : x1 = 10
                        · refine aw_tableIn (off := 140) (tgt := 209) d_X12_count_69 (by rw [e16]; decide) (by rw [e16]; decide) (by rw [e16]; decide) rfl ?_
                          have k := k.1 e16
                          refine aw_aload_n (i := 0) rfl d_X12_count_209 0 rfl ?_
                          refine aw_geti (k0 := 97) kc_12 (ws_1 w) (Nat.le_of_ble_eq_true rfl) tw_1839 d_X12_count_210 rfl ?_
                          exact aw_iret rfl d_X12_count_213 ⟨Nat.le_refl _, Nat.le_refl _⟩ ⟨_, rfl, k⟩
                        · have k := k.2
                          by_cases e17 : x1 = 11
                          · refine aw_tableIn (off := 145) (tgt := 214) d_X12_count_69 (by rw [e17]; decide) (by rw [e17]; decide) (by rw [e17]; decide) rfl ?_
                            have k := k.1 e17
                            refine aw_aload_n (i := 0) rfl d_X12_count_214 0 rfl ?_
                            refine aw_geti (k0 := 101) kc_12 (ws_1 w) (Nat.le_of_ble_eq_true rfl) tw_1843 d_X12_count_215 rfl ?_
                            exact aw_iret rfl d_X12_count_218 ⟨Nat.le_refl _, Nat.le_refl _⟩ ⟨_, rfl, k⟩
                          · have k := k.2
                            by_cases e18 : x1 = 12
                            · refine aw_tableIn (off := 150) (tgt := 219) d_X12_count_69 (by rw [e18]; decide) (by rw [e18]; decide) (by rw [e18]; decide) rfl ?_
                              have k := k.1 e18
                              refine aw_aload_n (i := 0) rfl d_X12_count_219 0 rfl ?_
                              refine aw_geti (k0 := 102) kc_12 (ws_1 w) (Nat.le_of_ble_eq_true rfl) tw_1844 d_X12_count_220 rfl ?_
                              exact aw_iret rfl d_X12_count_223 ⟨Nat.le_refl _, Nat.le_refl _⟩ ⟨_, rfl, k⟩
                            · have k := k.2
                              by_cases e19 : x1 = 13
                              · refine aw_tableIn (off := 155) (tgt := 224) d_X12_count_69 (by rw [e19]; decide) (by rw [e19]; decide) (by rw [e19]; decide) rfl ?_
                                have k := k.1 e19
                                refine aw_aload_n (i := 0) rfl d_X12_count_224 0 rfl ?_
                                refine aw_geti (k0 := 108) kc_12 (ws_1 w) (Nat.le_of_ble_eq_true rfl) tw_1850 d_X12_count_225 rfl ?_
                                exact aw_iret rfl d_X12_count_228 ⟨Nat.le_refl _, Nat.le_refl _⟩ ⟨_, rfl, k⟩
                              · have k := k.2
                                by_cases e20 : x1 = 14
                                · refine aw_tableIn (off := 160) (tgt := 229) d_X12_count_69 (by rw [e20]; decide) (by rw [e20]; decide) (by rw [e20]; decide) rfl ?_
                                  have k := k.1 e20
                                  refine aw_aload_n (i := 0) rfl d_X12_count_229 0 rfl ?_
                                  refine aw_geti (k0 := 119) kc_12 (ws_1 w) (Nat.le_of_ble_eq_true rfl) tw_1861 d_X12_count_230 rfl ?_
                                  exact aw_iret rfl d_X12_count_233 ⟨Nat.le_refl _, Nat.le_refl _⟩ ⟨_, rfl, k⟩
                                · have k := k.2
                                  by_cases e21 : x1 = 15
                                  · refine aw_tableIn (off := 165) (tgt := 234) d_X12_count_69 (by rw [e21]; decide) (by rw [e21]; decide) (by rw [e21]; decide) rfl ?_
                                    have k := k.1 e21
                                    refine aw_aload_n (i := 0) rfl d_X12_count_234 0 rfl ?_
                                    refine aw_getr (k0 := 49) kc_12 (ws_1 w) (Nat.le_of_ble_eq_true rfl) tw_1791 d_X12_count_235 rfl (wr_1_49 w) ?_
                                    refine aw_iconst (v := 1) d_X12_count_238 ic_1 ?_
                                    obtain ⟨b22, k⟩ := k
                                    refine aw_iald (ws_235 w) b22 d_X12_count_239 ?_
                                    exact aw_iret rfl d_X12_count_240 ⟨Nat.le_refl _, Nat.le_refl _⟩ ⟨_, rfl, k⟩
                                  · have k := k.2
                                    by_cases e23 : x1 = 16
                                    · refine aw_tableIn (off := 172) (tgt := 241) d_X12_count_69 (by rw [e23]; decide) (by rw [e23]; decide) (by rw [e23]; decide) rfl ?_
                                      have k := k.1 e23
                                      refine aw_aload_n (i := 0) rfl d_X12_count_241 0 rfl ?_
                                      refine aw_geti (k0 := 127) kc_12 (ws_1 w) (Nat.le_of_ble_eq_true rfl) tw_1869 d_X12_count_242 rfl ?_
                                      exact aw_iret rfl d_X12_count_245 ⟨Nat.le_refl _, Nat.le_refl _⟩ ⟨_, rfl, k⟩
                                    · have k := k.2
                                      by_cases e24 : x1 = 17
                                      · refine aw_tableIn (off := 177) (tgt := 246) d_X12_count_69 (by rw [e24]; decide) (by rw [e24]; decide) (by rw [e24]; decide) rfl ?_
                                        have k := k.1 e24
                                        refine aw_iload_n (i := 3) rfl d_X12_count_246 3 rfl ?_
                                        exact aw_iret rfl d_X12_count_247 ⟨Nat.le_refl _, Nat.le_refl _⟩ ⟨_, rfl, k⟩
                                      · have k := k.2
                                        by_cases e25 : x1 = 18
                                        · refine aw_tableIn (off := 179) (tgt := 248) d_X12_count_69 (by rw [e25]; decide) (by rw [e25]; decide) (by rw [e25]; decide) rfl ?_
                                          have k := k.1 e25
                                          refine aw_aload_n (i := 0) rfl d_X12_count_248 0 rfl ?_
                                          refine aw_geti (k0 := 32) kc_12 (ws_1 w) (Nat.le_of_ble_eq_true rfl) tw_1774 d_X12_count_249 rfl ?_
                                          exact aw_iret rfl d_X12_count_252 ⟨Nat.le_refl _, Nat.le_refl _⟩ ⟨_, rfl, k⟩
                                        · have k := k.2
                                          have k := k ⟨e5, e6, e7, e8, e9, e10, e11, e12, e14, e15, e16, e17, e18, e19, e20, e21, e23, e24, e25⟩
                                          have n26 := sw_ne (0) (by decide) e5
                                          have n27 := sw_ne (1) (by decide) e6
                                          have n28 := sw_ne (2) (by decide) e7
                                          have n29 := sw_ne (3) (by decide) e8
                                          have n30 := sw_ne (4) (by decide) e9
                                          have n31 := sw_ne (5) (by decide) e10
                                          have n32 := sw_ne (6) (by decide) e11
                                          have n33 := sw_ne (7) (by decide) e12
                                          have n34 := sw_ne (8) (by decide) e14
                                          have n35 := sw_ne (9) (by decide) e15
                                          have n36 := sw_ne (10) (by decide) e16
                                          have n37 := sw_ne (11) (by decide) e17
                                          have n38 := sw_ne (12) (by decide) e18
                                          have n39 := sw_ne (13) (by decide) e19
                                          have n40 := sw_ne (14) (by decide) e20
                                          have n41 := sw_ne (15) (by decide) e21
                                          have n42 := sw_ne (16) (by decide) e23
                                          have n43 := sw_ne (17) (by decide) e24
                                          have n44 := sw_ne (18) (by decide) e25
                                          refine aw_tableOut (tgt := 253) d_X12_count_69 (by omega) rfl ?_
                                          refine aw_iconst (v := (-1)) d_X12_count_253 ic_m1 ?_
                                          exact aw_iret rfl d_X12_count_254 ⟨Nat.le_refl _, Nat.le_refl _⟩ ⟨_, rfl, k⟩
  · have k := k.2 c4
    refine aw_iload_n (i := 3) rfl d_X12_count_52 3 rfl ?_
    refine aw_aload_n (i := 0) rfl d_X12_count_53 0 rfl ?_
    refine aw_getr (k0 := 125) kc_12 (ws_1 w) (Nat.le_of_ble_eq_true rfl) tw_1867 d_X12_count_54 rfl (wr_1_125 w) ?_
    refine aw_iload d_X12_count_57 4 rfl ?_
    obtain ⟨b45, k⟩ := k
    refine aw_iald (ws_296 w) b45 d_X12_count_59 ?_
    refine aw_iadd d_X12_count_60 ?_
    refine aw_istore_n (i := 3) rfl [(0, .ref 1), (1, .int x1), (2, .int x2), (3, .int (x3 + (h_i h 296 x4.toNatClampNeg))), (4, .int x4)] d_X12_count_61 (Nat.le_of_ble_eq_true rfl) rfl rfl ?_
    refine aw_iinc (v := (x4 + 1)) [(0, .ref 1), (1, .int x1), (2, .int x2), (3, .int (x3 + (h_i h 296 x4.toNatClampNeg))), (4, .int (x4 + 1))] d_X12_count_62 4 rfl rfl (Nat.le_of_ble_eq_true rfl) rfl rfl ?_
    refine aw_goto (tgt := 43) d_X12_count_65 rfl ?_
    exact k
theorem t_X12_feed (d : Nat) (h : Hp_) (x1 : Int32) (x2 : Int32) (x3 : Int32) (x4 : Int32) (x5 : Int32) (K : Int32 → Hp_ → Prop) (k : AW (m_X12_feed (d + 1) 0 0) 0 0 6 [(0, .ref 1), (1, .int x1), (2, .int x2), (3, .int x3), (4, .int x4), (5, .int x5), (6, .int 0), (7, .int 0)] [] h (kI K)) : Ci (m_X12_feed (d + 1) 0 0) [.ref 1, .int x1, .int x2, .int x3, .int x4, .int x5] h K := by
  refine Ct.of (fun _ _ _ => trivial) rfl (Nat.le_of_ble_eq_true rfl) ?_
  show AW (m_X12_feed (d + 1) 0 0) 0 0 0 [(0, .ref 1), (1, .int x1), (2, .int x2), (3, .int x3), (4, .int x4), (5, .int x5)] [] h (kI K)
  refine aw_iconst (v := 0) d_X12_feed_0 ic_0 ?_
  refine aw_istore [(0, .ref 1), (1, .int x1), (2, .int x2), (3, .int x3), (4, .int x4), (5, .int x5), (6, .int 0)] d_X12_feed_1 (Nat.le_of_ble_eq_true rfl) rfl rfl ?_
  refine aw_iconst (v := 0) d_X12_feed_3 ic_0 ?_
  refine aw_istore [(0, .ref 1), (1, .int x1), (2, .int x2), (3, .int x3), (4, .int x4), (5, .int x5), (6, .int 0), (7, .int 0)] d_X12_feed_4 (Nat.le_of_ble_eq_true rfl) rfl rfl ?_
  exact k
theorem t_X12_feed_6 (d : Nat) (h : Hp_) (w : Wf h) (x1 : Int32) (x2 : Int32) (x3 : Int32) (x4 : Int32) (x5 : Int32) (x6 : Int32) (x7 : Int32) (K : Int32 → Hp_ → Prop) (k : (20 ≤ x7 → (((h_i h 1 32) + x6) ≤ 160 → AW (m_X12_feed (d + 1) 0 0) 0 0 62 [(0, .ref 1), (1, .int x1), (2, .int x2), (3, .int x3), (4, .int x4), (5, .int x5), (7, .int 0)] [] h (kI K)) ∧ (¬ ((h_i h 1 32) + x6) ≤ 160 → K (-1) h)) ∧ (¬ 20 ≤ x7 → Ci (m_X12_byteOf (d + 0) 0 0) [.int x1, .int x2, .int x3, .int x4, .int x5, .int x7] h (fun r5 h3 => Wf h3 ∧ ((r5 = 0 → AW (m_X12_feed (d + 1) 0 0) 0 0 6 [(0, .ref 1), (1, .int x1), (2, .int x2), (3, .int x3), (4, .int x4), (5, .int x5), (6, .int (x6 + 0)), (7, .int (x7 + 1))] [] h3 (kI K)) ∧ (¬ r5 = 0 → AW (m_X12_feed (d + 1) 0 0) 0 0 6 [(0, .ref 1), (1, .int x1), (2, .int x2), (3, .int x3), (4, .int x4), (5, .int x5), (6, .int (x6 + 1)), (7, .int (x7 + 1))] [] h3 (kI K)))))) : AW (m_X12_feed (d + 1) 0 0) 0 0 6 [(0, .ref 1), (1, .int x1), (2, .int x2), (3, .int x3), (4, .int x4), (5, .int x5), (6, .int x6), (7, .int x7)] [] h (kI K) := by
  refine aw_iload d_X12_feed_6 7 rfl ?_
  refine aw_bipush (v := 20) d_X12_feed_8 ib_20 ?_
  refine aw_icmp_ge (tgt := 44) d_X12_feed_10 rfl (fun c1 => ?_) (fun c1 => ?_)
  · have k := k.1 c1
    refine aw_aload_n (i := 0) rfl d_X12_feed_44 0 rfl ?_
    refine aw_geti (k0 := 32) kc_12 (ws_1 w) (Nat.le_of_ble_eq_true rfl) tw_1774 d_X12_feed_45 rfl ?_
    refine aw_iload d_X12_feed_48 6 rfl ?_
    refine aw_iadd d_X12_feed_50 ?_
    refine aw_sipush (v := 160) d_X12_feed_51 is_160 ?_
    refine aw_icmp_le (tgt := 59) d_X12_feed_54 rfl (fun c2 => ?_) (fun c2 => ?_)
    · have k := k.1 c2
      refine aw_iconst (v := 0) d_X12_feed_59 ic_0 ?_
      refine aw_istore [(0, .ref 1), (1, .int x1), (2, .int x2), (3, .int x3), (4, .int x4), (5, .int x5), (6, .int x6), (7, .int 0)] d_X12_feed_60 (Nat.le_of_ble_eq_true rfl) rfl rfl ?_
      exact aw_lvp [0, 1, 2, 3, 4, 5, 7] [(0, .ref 1), (1, .int x1), (2, .int x2), (3, .int x3), (4, .int x4), (5, .int x5), (7, .int 0)] rfl k
    · have k := k.2 c2
      refine aw_iconst (v := (-1)) d_X12_feed_57 ic_m1 ?_
      exact aw_iret rfl d_X12_feed_58 ⟨Nat.le_refl _, Nat.le_refl _⟩ ⟨_, rfl, k⟩
  · have k := k.2 c1
    refine aw_iload d_X12_feed_13 6 rfl ?_
    refine aw_iload_n (i := 1) rfl d_X12_feed_15 1 rfl ?_
    refine aw_iload_n (i := 2) rfl d_X12_feed_16 2 rfl ?_
    refine aw_iload_n (i := 3) rfl d_X12_feed_17 3 rfl ?_
    refine aw_iload d_X12_feed_18 4 rfl ?_
    refine aw_iload d_X12_feed_20 5 rfl ?_
    refine aw_iload d_X12_feed_22 7 rfl ?_
    refine aw_Si [.int x1, .int x2, .int x3, .int x4, .int x5, .int x7] [.int x6] d_X12_feed_24 (cS_X12_byteOf (d + 0) 0 0) tw_2187 rfl (rr0 (Nat.le_of_ble_eq_true rfl) (Nat.le_of_ble_eq_true rfl)) (Nat.le_of_ble_eq_true rfl) xs0 k (fun r5 h3 kk => ?_)
    obtain ⟨w4, k⟩ := kk
    refine aw_if_eq (tgt := 34) d_X12_feed_27 rfl (fun c6 => ?_) (fun c6 => ?_)
    · have k := k.1 c6
      refine aw_iconst (v := 0) d_X12_feed_34 ic_0 ?_
      refine aw_iadd d_X12_feed_35 ?_
      refine aw_istore [(0, .ref 1), (1, .int x1), (2, .int x2), (3, .int x3), (4, .int x4), (5, .int x5), (6, .int (x6 + 0)), (7, .int x7)] d_X12_feed_36 (Nat.le_of_ble_eq_true rfl) rfl rfl ?_
      refine aw_iinc (v := (x7 + 1)) [(0, .ref 1), (1, .int x1), (2, .int x2), (3, .int x3), (4, .int x4), (5, .int x5), (6, .int (x6 + 0)), (7, .int (x7 + 1))] d_X12_feed_38 7 rfl rfl (Nat.le_of_ble_eq_true rfl) rfl rfl ?_
      refine aw_goto (tgt := 6) d_X12_feed_41 rfl ?_
      exact k
    · have k := k.2 c6
      refine aw_iconst (v := 1) d_X12_feed_30 ic_1 ?_
      refine aw_goto (tgt := 35) d_X12_feed_31 rfl ?_
      refine aw_iadd d_X12_feed_35 ?_
      refine aw_istore [(0, .ref 1), (1, .int x1), (2, .int x2), (3, .int x3), (4, .int x4), (5, .int x5), (6, .int (x6 + 1)), (7, .int x7)] d_X12_feed_36 (Nat.le_of_ble_eq_true rfl) rfl rfl ?_
      refine aw_iinc (v := (x7 + 1)) [(0, .ref 1), (1, .int x1), (2, .int x2), (3, .int x3), (4, .int x4), (5, .int x5), (6, .int (x6 + 1)), (7, .int (x7 + 1))] d_X12_feed_38 7 rfl rfl (Nat.le_of_ble_eq_true rfl) rfl rfl ?_
      refine aw_goto (tgt := 6) d_X12_feed_41 rfl ?_
      exact k
theorem t_X12_feed_62 (d : Nat) (h : Hp_) (w : Wf h) (x1 : Int32) (x2 : Int32) (x3 : Int32) (x4 : Int32) (x5 : Int32) (x7 : Int32) (K : Int32 → Hp_ → Prop) (k : (20 ≤ x7 → K (h_i h 1 32) h) ∧ (¬ 20 ≤ x7 → Ci (m_X12_byteOf (d + 0) 0 0) [.int x1, .int x2, .int x3, .int x4, .int x5, .int x7] h (fun r10 h8 => Wf h8 ∧ ((r10 = 0 → AW (m_X12_feed (d + 1) 0 0) 0 0 62 [(0, .ref 1), (1, .int x1), (2, .int x2), (3, .int x3), (4, .int x4), (5, .int x5), (7, .int (x7 + 1))] [] h8 (kI K)) ∧ (¬ r10 = 0 → vp_in (h_i h8 1 32) 160 ∧ (AW (m_X12_feed (d + 1) 0 0) 0 0 62 [(0, .ref 1), (1, .int x1), (2, .int x2), (3, .int x3), (4, .int x4), (5, .int x5), (7, .int (x7 + 1))] [] (h_im (h_im h8 225 ((h_i h8 1 32) : Int32).toNatClampNeg r10) 1 32 ((h_i h8 1 32) + 1)) (kI K))))))) : AW (m_X12_feed (d + 1) 0 0) 0 0 62 [(0, .ref 1), (1, .int x1), (2, .int x2), (3, .int x3), (4, .int x4), (5, .int x5), (7, .int x7)] [] h (kI K) := by
  refine aw_iload d_X12_feed_62 6 rfl ?_
  refine aw_bipush (v := 20) d_X12_feed_64 ib_20 ?_
  refine aw_icmp_ge (tgt := 115) d_X12_feed_66 rfl (fun c7 => ?_) (fun c7 => ?_)
  · have k := k.1 c7
    refine aw_aload_n (i := 0) rfl d_X12_feed_115 0 rfl ?_
    refine aw_geti (k0 := 32) kc_12 (ws_1 w) (Nat.le_of_ble_eq_true rfl) tw_1774 d_X12_feed_116 rfl ?_
    exact aw_iret rfl d_X12_feed_119 ⟨Nat.le_refl _, Nat.le_refl _⟩ ⟨_, rfl, k⟩
  · have k := k.2 c7
    refine aw_iload_n (i := 1) rfl d_X12_feed_69 1 rfl ?_
    refine aw_iload_n (i := 2) rfl d_X12_feed_70 2 rfl ?_
    refine aw_iload_n (i := 3) rfl d_X12_feed_71 3 rfl ?_
    refine aw_iload d_X12_feed_72 4 rfl ?_
    refine aw_iload d_X12_feed_74 5 rfl ?_
    refine aw_iload d_X12_feed_76 6 rfl ?_
    refine aw_Si [.int x1, .int x2, .int x3, .int x4, .int x5, .int x7] [] d_X12_feed_78 (cS_X12_byteOf (d + 0) 0 0) tw_2187 rfl (rr0 (Nat.le_of_ble_eq_true rfl) (Nat.le_of_ble_eq_true rfl)) (Nat.le_of_ble_eq_true rfl) xs0 k (fun r10 h8 kk => ?_)
    obtain ⟨w9, k⟩ := kk
    refine aw_istore [(0, .ref 1), (1, .int x1), (2, .int x2), (3, .int x3), (4, .int x4), (5, .int x5), (7, .int x7), (8, .int r10)] d_X12_feed_81 (Nat.le_of_ble_eq_true rfl) rfl rfl ?_
    refine aw_iload d_X12_feed_83 7 rfl ?_
    refine aw_if_eq (tgt := 109) d_X12_feed_85 rfl (fun c11 => ?_) (fun c11 => ?_)
    · have k := k.1 c11
      refine aw_iinc (v := (x7 + 1)) [(0, .ref 1), (1, .int x1), (2, .int x2), (3, .int x3), (4, .int x4), (5, .int x5), (7, .int (x7 + 1)), (8, .int r10)] d_X12_feed_109 6 rfl rfl (Nat.le_of_ble_eq_true rfl) rfl rfl ?_
      refine aw_goto (tgt := 62) d_X12_feed_112 rfl ?_
      exact aw_lvp [0, 1, 2, 3, 4, 5, 6] [(0, .ref 1), (1, .int x1), (2, .int x2), (3, .int x3), (4, .int x4), (5, .int x5), (7, .int (x7 + 1))] rfl k
    · have k := k.2 c11
      refine aw_aload_n (i := 0) rfl d_X12_feed_88 0 rfl ?_
      refine aw_getr (k0 := 30) kc_12 (ws_1 w9) (Nat.le_of_ble_eq_true rfl) tw_1772 d_X12_feed_89 rfl (wr_1_30 w9) ?_
      refine aw_aload_n (i := 0) rfl d_X12_feed_92 0 rfl ?_
      refine aw_geti (k0 := 32) kc_12 (ws_1 w9) (Nat.le_of_ble_eq_true rfl) tw_1774 d_X12_feed_93 rfl ?_
      refine aw_iload d_X12_feed_96 7 rfl ?_
      obtain ⟨b12, k⟩ := k
      refine aw_iast (ws_225 w9) b12 d_X12_feed_98 ?_
      refine aw_aload_n (i := 0) rfl d_X12_feed_99 0 rfl ?_
      refine aw_dup d_X12_feed_100 rfl ?_
      refine aw_geti (k0 := 32) kc_12 (ws_1 w9) (Nat.le_of_ble_eq_true rfl) tw_1774 d_X12_feed_101 rfl ?_
      refine aw_vi (v2 := (h_i h8 1 32)) (rfl) ?_
      refine aw_iconst (v := 1) d_X12_feed_104 ic_1 ?_
      refine aw_iadd d_X12_feed_105 ?_
      refine aw_puti (k0 := 32) kc_12 (ws_1 w9) (Nat.le_of_ble_eq_true rfl) tw_1774 d_X12_feed_106 rfl rfl nf_i ?_
      refine aw_iinc (v := (x7 + 1)) [(0, .ref 1), (1, .int x1), (2, .int x2), (3, .int x3), (4, .int x4), (5, .int x5), (7, .int (x7 + 1)), (8, .int r10)] d_X12_feed_109 6 rfl rfl (Nat.le_of_ble_eq_true rfl) rfl rfl ?_
      refine aw_goto (tgt := 62) d_X12_feed_112 rfl ?_
      exact aw_lvp [0, 1, 2, 3, 4, 5, 6] [(0, .ref 1), (1, .int x1), (2, .int x2), (3, .int x3), (4, .int x4), (5, .int x5), (7, .int (x7 + 1))] rfl k
theorem t_X12_number (d : Nat) (h : Hp_) (w : Wf h)  (K : Int32 → Hp_ → Prop) (k : Ci (m_X12_look (d + 0) 0 0) [.ref 1] h (fun r3 h1 => Wf h1 ∧ (Ci (m_X12_isDigit (d + 0) 0 0) [.int r3] h1 (fun r6 h4 => Wf h4 ∧ ((¬ r6 = 0 → AW (m_X12_number (d + 1) 0 0) 0 0 20 [(0, .ref 1), (1, .int 0), (2, .int 0)] [] h4 (kI K)) ∧ (r6 = 0 → Cv (m_X12_bad (d + 0) 0 0) [.ref 1] h4 (fun h8 => Wf h8 ∧ (K (-1) h8)))))))) : Ci (m_X12_number (d + 1) 0 0) [.ref 1] h K := by
  refine Ct.of (fun _ _ _ => trivial) rfl (Nat.le_of_ble_eq_true rfl) ?_
  show AW (m_X12_number (d + 1) 0 0) 0 0 0 [(0, .ref 1)] [] h (kI K)
  refine aw_aload_n (i := 0) rfl d_X12_number_0 0 rfl ?_
  refine aw_Vi 1 [] [] d_X12_number_1 (cV_X12_look (d + 0) 0 0) kc_12 (ws_1 w) tw_2210 rfl (rr0 (Nat.le_of_ble_eq_true rfl) (Nat.le_of_ble_eq_true rfl)) (Nat.le_of_ble_eq_true rfl) xs0 k (fun r3 h1 kk => ?_)
  obtain ⟨w2, k⟩ := kk
  refine aw_Si [.int r3] [] d_X12_number_4 (cS_X12_isDigit (d + 0) 0 0) tw_2226 rfl (rr0 (Nat.le_of_ble_eq_true rfl) (Nat.le_of_ble_eq_true rfl)) (Nat.le_of_ble_eq_true rfl) xs0 k (fun r6 h4 kk => ?_)
  obtain ⟨w5, k⟩ := kk
  refine aw_if_ne (tgt := 16) d_X12_number_7 rfl (fun c7 => ?_) (fun c7 => ?_)
  · have k := k.1 c7
    refine aw_iconst (v := 0) d_X12_number_16 ic_0 ?_
    refine aw_istore_n (i := 1) rfl [(0, .ref 1), (1, .int 0)] d_X12_number_17 (Nat.le_of_ble_eq_true rfl) rfl rfl ?_
    refine aw_iconst (v := 0) d_X12_number_18 ic_0 ?_
    refine aw_istore_n (i := 2) rfl [(0, .ref 1), (1, .int 0), (2, .int 0)] d_X12_number_19 (Nat.le_of_ble_eq_true rfl) rfl rfl ?_
    exact k
  · have k := k.2 c7
    refine aw_aload_n (i := 0) rfl d_X12_number_10 0 rfl ?_
    refine aw_Vv 1 [] [] d_X12_number_11 (cV_X12_bad (d + 0) 0 0) kc_12 (ws_1 w5) tw_2229 rfl (rr0 (Nat.le_of_ble_eq_true rfl) (Nat.le_of_ble_eq_true rfl)) (Nat.le_of_ble_eq_true rfl) xs0 k (fun h8 kk => ?_)
    obtain ⟨w9, k⟩ := kk
    refine aw_iconst (v := (-1)) d_X12_number_14 ic_m1 ?_
    exact aw_iret rfl d_X12_number_15 ⟨Nat.le_refl _, Nat.le_refl _⟩ ⟨_, rfl, k⟩
theorem t_X12_number_20 (d : Nat) (h : Hp_) (w : Wf h) (x1 : Int32) (x2 : Int32) (K : Int32 → Hp_ → Prop) (k : ((h_i h 1 32) ≤ (h_i h 1 33) → K x1 h) ∧ (¬ (h_i h 1 32) ≤ (h_i h 1 33) → vp_in (h_i h 1 33) 160 ∧ (Ci (m_X12_isDigit (d + 0) 0 0) [.int (h_i h 225 ((h_i h 1 33) : Int32).toNatClampNeg)] h (fun r15 h13 => Wf h13 ∧ ((r15 = 0 → K x1 h13) ∧ (¬ r15 = 0 → (¬ x2 = 4 → vp_in (h_i h13 1 33) 160 ∧ (AW (m_X12_number (d + 1) 0 0) 0 0 20 [(0, .ref 1), (1, .int (((10 * x1) + (h_i h13 225 ((h_i h13 1 33) : Int32).toNatClampNeg)) - 48)), (2, .int (x2 + 1))] [] (h_im h13 1 33 ((h_i h13 1 33) + 1)) (kI K))) ∧ (x2 = 4 → Cv (m_X12_bad (d + 0) 0 0) [.ref 1] h13 (fun h19 => Wf h19 ∧ (K (-1) h19))))))))) : AW (m_X12_number (d + 1) 0 0) 0 0 20 [(0, .ref 1), (1, .int x1), (2, .int x2)] [] h (kI K) := by
  refine aw_aload_n (i := 0) rfl d_X12_number_20 0 rfl ?_
  refine aw_geti (k0 := 33) kc_12 (ws_1 w) (Nat.le_of_ble_eq_true rfl) tw_1775 d_X12_number_21 rfl ?_
  refine aw_aload_n (i := 0) rfl d_X12_number_24 0 rfl ?_
  refine aw_geti (k0 := 32) kc_12 (ws_1 w) (Nat.le_of_ble_eq_true rfl) tw_1774 d_X12_number_25 rfl ?_
  refine aw_icmp_ge (tgt := 91) d_X12_number_28 rfl (fun c11 => ?_) (fun c11 => ?_)
  · have k := k.1 c11
    refine aw_iload_n (i := 1) rfl d_X12_number_91 1 rfl ?_
    exact aw_iret rfl d_X12_number_92 ⟨Nat.le_refl _, Nat.le_refl _⟩ ⟨_, rfl, k⟩
  · have k := k.2 c11
    refine aw_aload_n (i := 0) rfl d_X12_number_31 0 rfl ?_
    refine aw_getr (k0 := 30) kc_12 (ws_1 w) (Nat.le_of_ble_eq_true rfl) tw_1772 d_X12_number_32 rfl (wr_1_30 w) ?_
    refine aw_aload_n (i := 0) rfl d_X12_number_35 0 rfl ?_
    refine aw_geti (k0 := 33) kc_12 (ws_1 w) (Nat.le_of_ble_eq_true rfl) tw_1775 d_X12_number_36 rfl ?_
    obtain ⟨b12, k⟩ := k
    refine aw_iald (ws_225 w) b12 d_X12_number_39 ?_
    refine aw_Si [.int (h_i h 225 ((h_i h 1 33) : Int32).toNatClampNeg)] [] d_X12_number_40 (cS_X12_isDigit (d + 0) 0 0) tw_2226 rfl (rr0 (Nat.le_of_ble_eq_true rfl) (Nat.le_of_ble_eq_true rfl)) (Nat.le_of_ble_eq_true rfl) xs0 k (fun r15 h13 kk => ?_)
    obtain ⟨w14, k⟩ := kk
    refine aw_if_eq (tgt := 91) d_X12_number_43 rfl (fun c16 => ?_) (fun c16 => ?_)
    · have k := k.1 c16
      refine aw_iload_n (i := 1) rfl d_X12_number_91 1 rfl ?_
      exact aw_iret rfl d_X12_number_92 ⟨Nat.le_refl _, Nat.le_refl _⟩ ⟨_, rfl, k⟩
    · have k := k.2 c16
      refine aw_iload_n (i := 2) rfl d_X12_number_46 2 rfl ?_
      refine aw_iconst (v := 4) d_X12_number_47 ic_4 ?_
      refine aw_icmp_ne (tgt := 57) d_X12_number_48 rfl (fun c17 => ?_) (fun c17 => ?_)
      · have k := k.1 c17
        refine aw_bipush (v := 10) d_X12_number_57 ib_10 ?_
        refine aw_iload_n (i := 1) rfl d_X12_number_59 1 rfl ?_
        refine aw_imul d_X12_number_60 ?_
        refine aw_aload_n (i := 0) rfl d_X12_number_61 0 rfl ?_
        refine aw_getr (k0 := 30) kc_12 (ws_1 w14) (Nat.le_of_ble_eq_true rfl) tw_1772 d_X12_number_62 rfl (wr_1_30 w14) ?_
        refine aw_aload_n (i := 0) rfl d_X12_number_65 0 rfl ?_
        refine aw_geti (k0 := 33) kc_12 (ws_1 w14) (Nat.le_of_ble_eq_true rfl) tw_1775 d_X12_number_66 rfl ?_
        obtain ⟨b18, k⟩ := k
        refine aw_iald (ws_225 w14) b18 d_X12_number_69 ?_
        refine aw_iadd d_X12_number_70 ?_
        refine aw_bipush (v := 48) d_X12_number_71 ib_48 ?_
        refine aw_isub d_X12_number_73 ?_
        refine aw_istore_n (i := 1) rfl [(0, .ref 1), (1, .int (((10 * x1) + (h_i h13 225 ((h_i h13 1 33) : Int32).toNatClampNeg)) - 48)), (2, .int x2)] d_X12_number_74 (Nat.le_of_ble_eq_true rfl) rfl rfl ?_
        refine aw_iinc (v := (x2 + 1)) [(0, .ref 1), (1, .int (((10 * x1) + (h_i h13 225 ((h_i h13 1 33) : Int32).toNatClampNeg)) - 48)), (2, .int (x2 + 1))] d_X12_number_75 2 rfl rfl (Nat.le_of_ble_eq_true rfl) rfl rfl ?_
        refine aw_aload_n (i := 0) rfl d_X12_number_78 0 rfl ?_
        refine aw_dup d_X12_number_79 rfl ?_
        refine aw_geti (k0 := 33) kc_12 (ws_1 w14) (Nat.le_of_ble_eq_true rfl) tw_1775 d_X12_number_80 rfl ?_
        refine aw_iconst (v := 1) d_X12_number_83 ic_1 ?_
        refine aw_iadd d_X12_number_84 ?_
        refine aw_puti (k0 := 33) kc_12 (ws_1 w14) (Nat.le_of_ble_eq_true rfl) tw_1775 d_X12_number_85 rfl rfl nf_i ?_
        refine aw_goto (tgt := 20) d_X12_number_88 rfl ?_
        exact k
      · have k := k.2 c17
        refine aw_aload_n (i := 0) rfl d_X12_number_51 0 rfl ?_
        refine aw_Vv 1 [] [] d_X12_number_52 (cV_X12_bad (d + 0) 0 0) kc_12 (ws_1 w14) tw_2229 rfl (rr0 (Nat.le_of_ble_eq_true rfl) (Nat.le_of_ble_eq_true rfl)) (Nat.le_of_ble_eq_true rfl) xs0 k (fun h19 kk => ?_)
        obtain ⟨w20, k⟩ := kk
        refine aw_iconst (v := (-1)) d_X12_number_55 ic_m1 ?_
        exact aw_iret rfl d_X12_number_56 ⟨Nat.le_refl _, Nat.le_refl _⟩ ⟨_, rfl, k⟩
theorem t_X12_beaten (d : Nat) (h : Hp_) (w : Wf h) (x1 : Int32) (x2 : Int32) (K : Int32 → Hp_ → Prop) (k : (¬ (0 ≤ x1 ∧ x1 ≤ ((h_i h 1 42) - 1)) → K (-1) h) ∧ ((0 ≤ x1 ∧ x1 ≤ ((h_i h 1 42) - 1)) → ((0 ≤ x2 ∧ x2 ≤ 1) → (¬ x2 = 0 → Ci (m_X12_pointsOf (d + 0) 0 0) [.ref 1, .int x1] h (fun r10 h8 => Wf h8 ∧ (K r10 h8))) ∧ (x2 = 0 → vp_in x1 12 ∧ (K (h_i h 227 x1.toNatClampNeg) h))) ∧ (¬ (0 ≤ x2 ∧ x2 ≤ 1) → K (-1) h))) : Ci (m_X12_beaten (d + 1) 0 0) [.ref 1, .int x1, .int x2] h K := by
  refine Ct.of (fun _ _ _ => trivial) rfl (Nat.le_of_ble_eq_true rfl) ?_
  show AW (m_X12_beaten (d + 1) 0 0) 0 0 0 [(0, .ref 1), (1, .int x1), (2, .int x2)] [] h (kI K)
  refine aw_iload_n (i := 1) rfl d_X12_beaten_0 1 rfl ?_
  refine aw_iconst (v := 0) d_X12_beaten_1 ic_0 ?_
  refine aw_aload_n (i := 0) rfl d_X12_beaten_2 0 rfl ?_
  refine aw_geti (k0 := 42) kc_12 (ws_1 w) (Nat.le_of_ble_eq_true rfl) tw_1784 d_X12_beaten_3 rfl ?_
  refine aw_iconst (v := 1) d_X12_beaten_6 ic_1 ?_
  refine aw_isub d_X12_beaten_7 ?_
  refine aw_Si [.int x1, .int 0, .int ((h_i h 1 42) - 1)] [] d_X12_beaten_8 (cS_X12_in (d + 0) 0 0) tw_2147 rfl (rr0 (Nat.le_of_ble_eq_true rfl) (Nat.le_of_ble_eq_true rfl)) (Nat.le_of_ble_eq_true rfl) xs0 (s_X12_in _ _ x1 0 ((h_i h 1 42) - 1)) (fun _ _ kk => ?_)
  obtain ⟨e1, e2⟩ := kk
  rw [e1, e2]
  refine aw_ifb_eq (tgt := 23) d_X12_beaten_11 rfl (fun c3 => ?_) (fun c3 => ?_)
  · have k := k.1 c3
    refine aw_iconst (v := (-1)) d_X12_beaten_23 ic_m1 ?_
    exact aw_iret rfl d_X12_beaten_24 ⟨Nat.le_refl _, Nat.le_refl _⟩ ⟨_, rfl, k⟩
  · have k := k.2 c3
    refine aw_iload_n (i := 2) rfl d_X12_beaten_14 2 rfl ?_
    refine aw_iconst (v := 0) d_X12_beaten_15 ic_0 ?_
    refine aw_iconst (v := 1) d_X12_beaten_16 ic_1 ?_
    refine aw_Si [.int x2, .int 0, .int 1] [] d_X12_beaten_17 (cS_X12_in (d + 0) 0 0) tw_2147 rfl (rr0 (Nat.le_of_ble_eq_true rfl) (Nat.le_of_ble_eq_true rfl)) (Nat.le_of_ble_eq_true rfl) xs0 (s_X12_in _ _ x2 0 1) (fun _ _ kk => ?_)
    obtain ⟨e4, e5⟩ := kk
    rw [e4, e5]
    refine aw_ifb_ne (tgt := 25) d_X12_beaten_20 rfl (fun c6 => ?_) (fun c6 => ?_)
    · have k := k.1 c6
      refine aw_iload_n (i := 2) rfl d_X12_beaten_25 2 rfl ?_
      refine aw_if_ne (tgt := 38) d_X12_beaten_26 rfl (fun c7 => ?_) (fun c7 => ?_)
      · have k := k.1 c7
        refine aw_aload_n (i := 0) rfl d_X12_beaten_38 0 rfl ?_
        refine aw_iload_n (i := 1) rfl d_X12_beaten_39 1 rfl ?_
        refine aw_Vi 1 [.int x1] [] d_X12_beaten_40 (cV_X12_pointsOf (d + 0) 0 0) kc_12 (ws_1 w) tw_2291 rfl (rr0 (Nat.le_of_ble_eq_true rfl) (Nat.le_of_ble_eq_true rfl)) (Nat.le_of_ble_eq_true rfl) xs0 k (fun r10 h8 kk => ?_)
        obtain ⟨w9, k⟩ := kk
        exact aw_iret rfl d_X12_beaten_43 ⟨Nat.le_refl _, Nat.le_refl _⟩ ⟨_, rfl, k⟩
      · have k := k.2 c7
        refine aw_aload_n (i := 0) rfl d_X12_beaten_29 0 rfl ?_
        refine aw_getr (k0 := 38) kc_12 (ws_1 w) (Nat.le_of_ble_eq_true rfl) tw_1780 d_X12_beaten_30 rfl (wr_1_38 w) ?_
        refine aw_iload_n (i := 1) rfl d_X12_beaten_33 1 rfl ?_
        obtain ⟨b11, k⟩ := k
        refine aw_iald (ws_227 w) b11 d_X12_beaten_34 ?_
        refine aw_goto (tgt := 43) d_X12_beaten_35 rfl ?_
        exact aw_iret rfl d_X12_beaten_43 ⟨Nat.le_refl _, Nat.le_refl _⟩ ⟨_, rfl, k⟩
    · have k := k.2 c6
      refine aw_iconst (v := (-1)) d_X12_beaten_23 ic_m1 ?_
      exact aw_iret rfl d_X12_beaten_24 ⟨Nat.le_refl _, Nat.le_refl _⟩ ⟨_, rfl, k⟩
theorem t_X12_opens (d : Nat) (h : Hp_) (w : Wf h)  (K : Int32 → Hp_ → Prop) (k : (¬ (h_i h 1 35) = 6 → K 1 (h_im (h_im h 1 35 ((h_i h 1 35) + 1)) 1 33 ((h_i h 1 33) + 1))) ∧ ((h_i h 1 35) = 6 → Cv (m_X12_bad (d + 0) 0 0) [.ref 1] h (fun h2 => Wf h2 ∧ (K 0 h2)))) : Ci (m_X12_opens (d + 1) 0 0) [.ref 1] h K := by
  refine Ct.of (fun _ _ _ => trivial) rfl (Nat.le_of_ble_eq_true rfl) ?_
  show AW (m_X12_opens (d + 1) 0 0) 0 0 0 [(0, .ref 1)] [] h (kI K)
  refine aw_aload_n (i := 0) rfl d_X12_opens_0 0 rfl ?_
  refine aw_geti (k0 := 35) kc_12 (ws_1 w) (Nat.le_of_ble_eq_true rfl) tw_1777 d_X12_opens_1 rfl ?_
  refine aw_bipush (v := 6) d_X12_opens_4 ib_6 ?_
  refine aw_icmp_ne (tgt := 15) d_X12_opens_6 rfl (fun c1 => ?_) (fun c1 => ?_)
  · have k := k.1 c1
    refine aw_aload_n (i := 0) rfl d_X12_opens_15 0 rfl ?_
    refine aw_dup d_X12_opens_16 rfl ?_
    refine aw_geti (k0 := 35) kc_12 (ws_1 w) (Nat.le_of_ble_eq_true rfl) tw_1777 d_X12_opens_17 rfl ?_
    refine aw_iconst (v := 1) d_X12_opens_20 ic_1 ?_
    refine aw_iadd d_X12_opens_21 ?_
    refine aw_puti (k0 := 35) kc_12 (ws_1 w) (Nat.le_of_ble_eq_true rfl) tw_1777 d_X12_opens_22 rfl rfl nf_i ?_
    refine aw_aload_n (i := 0) rfl d_X12_opens_25 0 rfl ?_
    refine aw_dup d_X12_opens_26 rfl ?_
    refine aw_geti (k0 := 33) kc_12 (ws_1 w) (Nat.le_of_ble_eq_true rfl) tw_1775 d_X12_opens_27 rfl ?_
    refine aw_vi (v2 := (h_i h 1 33)) (rfl) ?_
    refine aw_iconst (v := 1) d_X12_opens_30 ic_1 ?_
    refine aw_iadd d_X12_opens_31 ?_
    refine aw_puti (k0 := 33) kc_12 (ws_1 w) (Nat.le_of_ble_eq_true rfl) tw_1775 d_X12_opens_32 rfl rfl nf_i ?_
    refine aw_iconst (v := 1) d_X12_opens_35 ic_1 ?_
    exact aw_zret rfl rfl d_X12_opens_36 ⟨Nat.le_refl _, Nat.le_refl _⟩ ⟨_, rfl, k⟩
  · have k := k.2 c1
    refine aw_aload_n (i := 0) rfl d_X12_opens_9 0 rfl ?_
    refine aw_Vv 1 [] [] d_X12_opens_10 (cV_X12_bad (d + 0) 0 0) kc_12 (ws_1 w) tw_2229 rfl (rr0 (Nat.le_of_ble_eq_true rfl) (Nat.le_of_ble_eq_true rfl)) (Nat.le_of_ble_eq_true rfl) xs0 k (fun h2 kk => ?_)
    obtain ⟨w3, k⟩ := kk
    refine aw_iconst (v := 0) d_X12_opens_13 ic_0 ?_
    exact aw_zret rfl rfl d_X12_opens_14 ⟨Nat.le_refl _, Nat.le_refl _⟩ ⟨_, rfl, k⟩
theorem t_X12_closes (d : Nat) (h : Hp_) (w : Wf h) (x1 : Int32) (K : Hp_ → Prop) (k : (¬ (h_i h 1 34) = (-1) → K (h_im (h_im h 1 33 ((h_i h 1 33) + 1)) 1 35 ((h_i h 1 35) - 1))) ∧ ((h_i h 1 34) = (-1) → Ci (m_X12_look (d + 0) 0 0) [.ref 1] h (fun r4 h2 => Wf h2 ∧ ((r4 = x1 → K (h_im (h_im h2 1 33 ((h_i h2 1 33) + 1)) 1 35 ((h_i h2 1 35) - 1))) ∧ (¬ r4 = x1 → Cv (m_X12_bad (d + 0) 0 0) [.ref 1] h2 (fun h6 => Wf h6 ∧ (K (h_im (h_im h6 1 33 ((h_i h6 1 33) + 1)) 1 35 ((h_i h6 1 35) - 1))))))))) : Cv (m_X12_closes (d + 1) 0 0) [.ref 1, .int x1] h K := by
  refine Ct.of (fun _ _ _ => trivial) rfl (Nat.le_of_ble_eq_true rfl) ?_
  show AW (m_X12_closes (d + 1) 0 0) 0 0 0 [(0, .ref 1), (1, .int x1)] [] h (kV K)
  refine aw_aload_n (i := 0) rfl d_X12_closes_0 0 rfl ?_
  refine aw_geti (k0 := 34) kc_12 (ws_1 w) (Nat.le_of_ble_eq_true rfl) tw_1776 d_X12_closes_1 rfl ?_
  refine aw_iconst (v := (-1)) d_X12_closes_4 ic_m1 ?_
  refine aw_icmp_ne (tgt := 20) d_X12_closes_5 rfl (fun c1 => ?_) (fun c1 => ?_)
  · have k := k.1 c1
    refine aw_aload_n (i := 0) rfl d_X12_closes_20 0 rfl ?_
    refine aw_dup d_X12_closes_21 rfl ?_
    refine aw_geti (k0 := 33) kc_12 (ws_1 w) (Nat.le_of_ble_eq_true rfl) tw_1775 d_X12_closes_22 rfl ?_
    refine aw_iconst (v := 1) d_X12_closes_25 ic_1 ?_
    refine aw_iadd d_X12_closes_26 ?_
    refine aw_puti (k0 := 33) kc_12 (ws_1 w) (Nat.le_of_ble_eq_true rfl) tw_1775 d_X12_closes_27 rfl rfl nf_i ?_
    refine aw_aload_n (i := 0) rfl d_X12_closes_30 0 rfl ?_
    refine aw_dup d_X12_closes_31 rfl ?_
    refine aw_geti (k0 := 35) kc_12 (ws_1 w) (Nat.le_of_ble_eq_true rfl) tw_1777 d_X12_closes_32 rfl ?_
    refine aw_vi (v2 := (h_i h 1 35)) (rfl) ?_
    refine aw_iconst (v := 1) d_X12_closes_35 ic_1 ?_
    refine aw_isub d_X12_closes_36 ?_
    refine aw_puti (k0 := 35) kc_12 (ws_1 w) (Nat.le_of_ble_eq_true rfl) tw_1777 d_X12_closes_37 rfl rfl nf_i ?_
    exact aw_vret rfl d_X12_closes_40 ⟨Nat.le_refl _, Nat.le_refl _⟩ ⟨rfl, k⟩
  · have k := k.2 c1
    refine aw_aload_n (i := 0) rfl d_X12_closes_8 0 rfl ?_
    refine aw_Vi 1 [] [] d_X12_closes_9 (cV_X12_look (d + 0) 0 0) kc_12 (ws_1 w) tw_2210 rfl (rr0 (Nat.le_of_ble_eq_true rfl) (Nat.le_of_ble_eq_true rfl)) (Nat.le_of_ble_eq_true rfl) xs0 k (fun r4 h2 kk => ?_)
    obtain ⟨w3, k⟩ := kk
    refine aw_iload_n (i := 1) rfl d_X12_closes_12 1 rfl ?_
    refine aw_icmp_eq (tgt := 20) d_X12_closes_13 rfl (fun c5 => ?_) (fun c5 => ?_)
    · have k := k.1 c5
      refine aw_aload_n (i := 0) rfl d_X12_closes_20 0 rfl ?_
      refine aw_dup d_X12_closes_21 rfl ?_
      refine aw_geti (k0 := 33) kc_12 (ws_1 w3) (Nat.le_of_ble_eq_true rfl) tw_1775 d_X12_closes_22 rfl ?_
      refine aw_iconst (v := 1) d_X12_closes_25 ic_1 ?_
      refine aw_iadd d_X12_closes_26 ?_
      refine aw_puti (k0 := 33) kc_12 (ws_1 w3) (Nat.le_of_ble_eq_true rfl) tw_1775 d_X12_closes_27 rfl rfl nf_i ?_
      refine aw_aload_n (i := 0) rfl d_X12_closes_30 0 rfl ?_
      refine aw_dup d_X12_closes_31 rfl ?_
      refine aw_geti (k0 := 35) kc_12 (ws_1 w3) (Nat.le_of_ble_eq_true rfl) tw_1777 d_X12_closes_32 rfl ?_
      refine aw_vi (v2 := (h_i h2 1 35)) (rfl) ?_
      refine aw_iconst (v := 1) d_X12_closes_35 ic_1 ?_
      refine aw_isub d_X12_closes_36 ?_
      refine aw_puti (k0 := 35) kc_12 (ws_1 w3) (Nat.le_of_ble_eq_true rfl) tw_1777 d_X12_closes_37 rfl rfl nf_i ?_
      exact aw_vret rfl d_X12_closes_40 ⟨Nat.le_refl _, Nat.le_refl _⟩ ⟨rfl, k⟩
    · have k := k.2 c5
      refine aw_aload_n (i := 0) rfl d_X12_closes_16 0 rfl ?_
      refine aw_Vv 1 [] [] d_X12_closes_17 (cV_X12_bad (d + 0) 0 0) kc_12 (ws_1 w3) tw_2229 rfl (rr0 (Nat.le_of_ble_eq_true rfl) (Nat.le_of_ble_eq_true rfl)) (Nat.le_of_ble_eq_true rfl) xs0 k (fun h6 kk => ?_)
      obtain ⟨w7, k⟩ := kk
      refine aw_aload_n (i := 0) rfl d_X12_closes_20 0 rfl ?_
      refine aw_dup d_X12_closes_21 rfl ?_
      refine aw_geti (k0 := 33) kc_12 (ws_1 w7) (Nat.le_of_ble_eq_true rfl) tw_1775 d_X12_closes_22 rfl ?_
      refine aw_iconst (v := 1) d_X12_closes_25 ic_1 ?_
      refine aw_iadd d_X12_closes_26 ?_
      refine aw_puti (k0 := 33) kc_12 (ws_1 w7) (Nat.le_of_ble_eq_true rfl) tw_1775 d_X12_closes_27 rfl rfl nf_i ?_
      refine aw_aload_n (i := 0) rfl d_X12_closes_30 0 rfl ?_
      refine aw_dup d_X12_closes_31 rfl ?_
      refine aw_geti (k0 := 35) kc_12 (ws_1 w7) (Nat.le_of_ble_eq_true rfl) tw_1777 d_X12_closes_32 rfl ?_
      refine aw_vi (v2 := (h_i h6 1 35)) (rfl) ?_
      refine aw_iconst (v := 1) d_X12_closes_35 ic_1 ?_
      refine aw_isub d_X12_closes_36 ?_
      refine aw_puti (k0 := 35) kc_12 (ws_1 w7) (Nat.le_of_ble_eq_true rfl) tw_1777 d_X12_closes_37 rfl rfl nf_i ?_
      exact aw_vret rfl d_X12_closes_40 ⟨Nat.le_refl _, Nat.le_refl _⟩ ⟨rfl, k⟩
theorem t_X12_ask (d : Nat) (h : Hp_) (w : Wf h)  (K : Hp_ → Prop) (k : (¬ (h_i h 1 34) = (-1) → Cv (m_X12_say (d + 0) 0 0) [.ref 1, .int 2] (h_im h 1 33 ((h_i h 1 33) + 1)) (fun h2 => Wf h2 ∧ (K h2))) ∧ ((h_i h 1 34) = (-1) → Ci (m_X12_look (d + 0) 0 0) [.ref 1] h (fun r7 h5 => Wf h5 ∧ ((r7 = 63 → Cv (m_X12_say (d + 0) 0 0) [.ref 1, .int 2] (h_im h5 1 33 ((h_i h5 1 33) + 1)) (fun h9 => Wf h9 ∧ (K h9))) ∧ (¬ r7 = 63 → Cv (m_X12_bad (d + 0) 0 0) [.ref 1] h5 (fun h12 => Wf h12 ∧ (Cv (m_X12_say (d + 0) 0 0) [.ref 1, .int 2] (h_im h12 1 33 ((h_i h12 1 33) + 1)) (fun h15 => Wf h15 ∧ (K h15))))))))) : Cv (m_X12_ask (d + 1) 0 0) [.ref 1] h K := by
  refine Ct.of (fun _ _ _ => trivial) rfl (Nat.le_of_ble_eq_true rfl) ?_
  show AW (m_X12_ask (d + 1) 0 0) 0 0 0 [(0, .ref 1)] [] h (kV K)
  refine aw_aload_n (i := 0) rfl d_X12_ask_0 0 rfl ?_
  refine aw_geti (k0 := 34) kc_12 (ws_1 w) (Nat.le_of_ble_eq_true rfl) tw_1776 d_X12_ask_1 rfl ?_
  refine aw_iconst (v := (-1)) d_X12_ask_4 ic_m1 ?_
  refine aw_icmp_ne (tgt := 21) d_X12_ask_5 rfl (fun c1 => ?_) (fun c1 => ?_)
  · have k := k.1 c1
    refine aw_aload_n (i := 0) rfl d_X12_ask_21 0 rfl ?_
    refine aw_dup d_X12_ask_22 rfl ?_
    refine aw_geti (k0 := 33) kc_12 (ws_1 w) (Nat.le_of_ble_eq_true rfl) tw_1775 d_X12_ask_23 rfl ?_
    refine aw_iconst (v := 1) d_X12_ask_26 ic_1 ?_
    refine aw_iadd d_X12_ask_27 ?_
    refine aw_puti (k0 := 33) kc_12 (ws_1 w) (Nat.le_of_ble_eq_true rfl) tw_1775 d_X12_ask_28 rfl rfl nf_i ?_
    refine aw_aload_n (i := 0) rfl d_X12_ask_31 0 rfl ?_
    refine aw_iconst (v := 2) d_X12_ask_32 ic_2 ?_
    refine aw_Vv 1 [.int 2] [] d_X12_ask_33 (cV_X12_say (d + 0) 0 0) kc_12 (ws_1 w) tw_2214 rfl (rr0 (Nat.le_of_ble_eq_true rfl) (Nat.le_of_ble_eq_true rfl)) (Nat.le_of_ble_eq_true rfl) xs0 k (fun h2 kk => ?_)
    obtain ⟨w3, k⟩ := kk
    exact aw_vret rfl d_X12_ask_36 ⟨Nat.le_refl _, Nat.le_refl _⟩ ⟨rfl, k⟩
  · have k := k.2 c1
    refine aw_aload_n (i := 0) rfl d_X12_ask_8 0 rfl ?_
    refine aw_Vi 1 [] [] d_X12_ask_9 (cV_X12_look (d + 0) 0 0) kc_12 (ws_1 w) tw_2210 rfl (rr0 (Nat.le_of_ble_eq_true rfl) (Nat.le_of_ble_eq_true rfl)) (Nat.le_of_ble_eq_true rfl) xs0 k (fun r7 h5 kk => ?_)
    obtain ⟨w6, k⟩ := kk
    refine aw_bipush (v := 63) d_X12_ask_12 ib_63 ?_
    refine aw_icmp_eq (tgt := 21) d_X12_ask_14 rfl (fun c8 => ?_) (fun c8 => ?_)
    · have k := k.1 c8
      refine aw_aload_n (i := 0) rfl d_X12_ask_21 0 rfl ?_
      refine aw_dup d_X12_ask_22 rfl ?_
      refine aw_geti (k0 := 33) kc_12 (ws_1 w6) (Nat.le_of_ble_eq_true rfl) tw_1775 d_X12_ask_23 rfl ?_
      refine aw_iconst (v := 1) d_X12_ask_26 ic_1 ?_
      refine aw_iadd d_X12_ask_27 ?_
      refine aw_puti (k0 := 33) kc_12 (ws_1 w6) (Nat.le_of_ble_eq_true rfl) tw_1775 d_X12_ask_28 rfl rfl nf_i ?_
      refine aw_aload_n (i := 0) rfl d_X12_ask_31 0 rfl ?_
      refine aw_iconst (v := 2) d_X12_ask_32 ic_2 ?_
      refine aw_Vv 1 [.int 2] [] d_X12_ask_33 (cV_X12_say (d + 0) 0 0) kc_12 (ws_1 w6) tw_2214 rfl (rr0 (Nat.le_of_ble_eq_true rfl) (Nat.le_of_ble_eq_true rfl)) (Nat.le_of_ble_eq_true rfl) xs0 k (fun h9 kk => ?_)
      obtain ⟨w10, k⟩ := kk
      exact aw_vret rfl d_X12_ask_36 ⟨Nat.le_refl _, Nat.le_refl _⟩ ⟨rfl, k⟩
    · have k := k.2 c8
      refine aw_aload_n (i := 0) rfl d_X12_ask_17 0 rfl ?_
      refine aw_Vv 1 [] [] d_X12_ask_18 (cV_X12_bad (d + 0) 0 0) kc_12 (ws_1 w6) tw_2229 rfl (rr0 (Nat.le_of_ble_eq_true rfl) (Nat.le_of_ble_eq_true rfl)) (Nat.le_of_ble_eq_true rfl) xs0 k (fun h12 kk => ?_)
      obtain ⟨w13, k⟩ := kk
      refine aw_aload_n (i := 0) rfl d_X12_ask_21 0 rfl ?_
      refine aw_dup d_X12_ask_22 rfl ?_
      refine aw_geti (k0 := 33) kc_12 (ws_1 w13) (Nat.le_of_ble_eq_true rfl) tw_1775 d_X12_ask_23 rfl ?_
      refine aw_iconst (v := 1) d_X12_ask_26 ic_1 ?_
      refine aw_iadd d_X12_ask_27 ?_
      refine aw_puti (k0 := 33) kc_12 (ws_1 w13) (Nat.le_of_ble_eq_true rfl) tw_1775 d_X12_ask_28 rfl rfl nf_i ?_
      refine aw_aload_n (i := 0) rfl d_X12_ask_31 0 rfl ?_
      refine aw_iconst (v := 2) d_X12_ask_32 ic_2 ?_
      refine aw_Vv 1 [.int 2] [] d_X12_ask_33 (cV_X12_say (d + 0) 0 0) kc_12 (ws_1 w13) tw_2214 rfl (rr0 (Nat.le_of_ble_eq_true rfl) (Nat.le_of_ble_eq_true rfl)) (Nat.le_of_ble_eq_true rfl) xs0 k (fun h15 kk => ?_)
      obtain ⟨w16, k⟩ := kk
      exact aw_vret rfl d_X12_ask_36 ⟨Nat.le_refl _, Nat.le_refl _⟩ ⟨rfl, k⟩
theorem t_X12_bounded (d : Nat) (h : Hp_) (x0 : Int64) (K : Int32 → Hp_ → Prop) (k : Cl_ (m_J9_min_f86c9 (d + 0) 0 0) [.long (1000000 : Int64), .long x0] h (fun r3 h1 => Wf h1 ∧ (Cl_ (m_J9_max_f86c9 (d + 0) 0 0) [.long (-1000000 : Int64), .long r3] h1 (fun r6 h4 => Wf h4 ∧ (K ((r6 : Int64).toInt32) h4))))) : Ci (m_X12_bounded (d + 1) 0 0) [.long x0] h K := by
  refine Ct.of (fun _ _ _ => trivial) rfl (Nat.le_of_ble_eq_true rfl) ?_
  show AW (m_X12_bounded (d + 1) 0 0) 0 0 0 [(0, .long x0)] [] h (kI K)
  refine aw_ldc2 (v := (-1000000)) d_X12_bounded_0 tw_2442 ?_
  refine aw_ldc2 (v := 1000000) d_X12_bounded_3 tw_2443 ?_
  refine aw_lload_n (i := 0) rfl d_X12_bounded_6 0 rfl ?_
  refine aw_Sl [.long (1000000 : Int64), .long x0] [.long (-1000000 : Int64)] d_X12_bounded_7 (cS_J9_min_f86c9 (d + 0) 0 0) tw_2444 rfl (rr0 (Nat.le_of_ble_eq_true rfl) (Nat.le_of_ble_eq_true rfl)) (Nat.le_of_ble_eq_true rfl) xs0 k (fun r3 h1 kk => ?_)
  obtain ⟨w2, k⟩ := kk
  refine aw_Sl [.long (-1000000 : Int64), .long r3] [] d_X12_bounded_10 (cS_J9_max_f86c9 (d + 0) 0 0) tw_2447 rfl (rr0 (Nat.le_of_ble_eq_true rfl) (Nat.le_of_ble_eq_true rfl)) (Nat.le_of_ble_eq_true rfl) xs0 k (fun r6 h4 kk => ?_)
  obtain ⟨w5, k⟩ := kk
  refine aw_l2i d_X12_bounded_13 ?_
  exact aw_iret rfl d_X12_bounded_14 ⟨Nat.le_refl _, Nat.le_refl _⟩ ⟨_, rfl, k⟩
theorem t_X12_drop (d : Nat) (h : Hp_) (w : Wf h) (x1 : Int32) (x2 : Int32) (K : Hp_ → Prop) (k : vp_in x1 12 ∧ (vp_in x1 12 ∧ (((h_i h 217 x1.toNatClampNeg) ≤ (h_i h 216 x1.toNatClampNeg) → vp_in x1 12 ∧ (K (h_im h 213 x1.toNatClampNeg (-1)))) ∧ (¬ (h_i h 217 x1.toNatClampNeg) ≤ (h_i h 216 x1.toNatClampNeg) → vp_in x1 12 ∧ (vp_in (h_i h 216 x1.toNatClampNeg) 400 ∧ ((¬ (h_i h 241 ((h_i h 216 x1.toNatClampNeg) : Int32).toNatClampNeg) = (-1) → vp_in x1 12 ∧ (vp_in x1 12 ∧ (AW (m_X12_drop (d + 1) 0 0) 0 0 0 [(0, .ref 1), (1, .int x1), (2, .int x2)] [] (h_im h 216 x1.toNatClampNeg ((h_i h 216 x1.toNatClampNeg) + 1)) (kV K)))) ∧ ((h_i h 241 ((h_i h 216 x1.toNatClampNeg) : Int32).toNatClampNeg) = (-1) → vp_in x1 12 ∧ (vp_in (h_i h 216 x1.toNatClampNeg) 400 ∧ ((¬ (h_i h 242 ((h_i h 216 x1.toNatClampNeg) : Int32).toNatClampNeg) = (-1) → vp_in x1 12 ∧ (vp_in x1 12 ∧ (AW (m_X12_drop (d + 1) 0 0) 0 0 0 [(0, .ref 1), (1, .int x1), (2, .int x2)] [] (h_im h 216 x1.toNatClampNeg ((h_i h 216 x1.toNatClampNeg) + 1)) (kV K)))) ∧ ((h_i h 242 ((h_i h 216 x1.toNatClampNeg) : Int32).toNatClampNeg) = (-1) → vp_in x1 12 ∧ (Cv (m_X12_miss (d + 0) 0 0) [.ref 1, .int (h_i h 216 x1.toNatClampNeg), .int x2] h (fun h16 => Wf h16 ∧ (vp_in x1 12 ∧ (vp_in x1 12 ∧ (AW (m_X12_drop (d + 1) 0 0) 0 0 0 [(0, .ref 1), (1, .int x1), (2, .int x2)] [] (h_im h16 216 x1.toNatClampNeg ((h_i h16 216 x1.toNatClampNeg) + 1)) (kV K)))))))))))))))) : Cv (m_X12_drop (d + 1) 0 0) [.ref 1, .int x1, .int x2] h K := by
  refine Ct.of (fun _ _ _ => trivial) rfl (Nat.le_of_ble_eq_true rfl) ?_
  show AW (m_X12_drop (d + 1) 0 0) 0 0 0 [(0, .ref 1), (1, .int x1), (2, .int x2)] [] h (kV K)
  refine aw_aload_n (i := 0) rfl d_X12_drop_0 0 rfl ?_
  refine aw_getr (k0 := 20) kc_12 (ws_1 w) (Nat.le_of_ble_eq_true rfl) tw_1762 d_X12_drop_1 rfl (wr_1_20 w) ?_
  refine aw_iload_n (i := 1) rfl d_X12_drop_4 1 rfl ?_
  obtain ⟨b1, k⟩ := k
  refine aw_iald (ws_216 w) b1 d_X12_drop_5 ?_
  refine aw_aload_n (i := 0) rfl d_X12_drop_6 0 rfl ?_
  refine aw_getr (k0 := 21) kc_12 (ws_1 w) (Nat.le_of_ble_eq_true rfl) tw_1763 d_X12_drop_7 rfl (wr_1_21 w) ?_
  refine aw_iload_n (i := 1) rfl d_X12_drop_10 1 rfl ?_
  obtain ⟨b2, k⟩ := k
  refine aw_iald (ws_217 w) b2 d_X12_drop_11 ?_
  refine aw_icmp_ge (tgt := 69) d_X12_drop_12 rfl (fun c3 => ?_) (fun c3 => ?_)
  · have k := k.1 c3
    refine aw_aload_n (i := 0) rfl d_X12_drop_69 0 rfl ?_
    refine aw_getr (k0 := 17) kc_12 (ws_1 w) (Nat.le_of_ble_eq_true rfl) tw_1759 d_X12_drop_70 rfl (wr_1_17 w) ?_
    refine aw_iload_n (i := 1) rfl d_X12_drop_73 1 rfl ?_
    refine aw_iconst (v := (-1)) d_X12_drop_74 ic_m1 ?_
    obtain ⟨b4, k⟩ := k
    refine aw_iast (ws_213 w) b4 d_X12_drop_75 ?_
    exact aw_vret rfl d_X12_drop_76 ⟨Nat.le_refl _, Nat.le_refl _⟩ ⟨rfl, k⟩
  · have k := k.2 c3
    refine aw_aload_n (i := 0) rfl d_X12_drop_15 0 rfl ?_
    refine aw_getr (k0 := 56) kc_12 (ws_1 w) (Nat.le_of_ble_eq_true rfl) tw_1798 d_X12_drop_16 rfl (wr_1_56 w) ?_
    refine aw_aload_n (i := 0) rfl d_X12_drop_19 0 rfl ?_
    refine aw_getr (k0 := 20) kc_12 (ws_1 w) (Nat.le_of_ble_eq_true rfl) tw_1762 d_X12_drop_20 rfl (wr_1_20 w) ?_
    refine aw_iload_n (i := 1) rfl d_X12_drop_23 1 rfl ?_
    obtain ⟨b5, k⟩ := k
    refine aw_iald (ws_216 w) b5 d_X12_drop_24 ?_
    obtain ⟨b6, k⟩ := k
    refine aw_iald (ws_241 w) b6 d_X12_drop_25 ?_
    refine aw_iconst (v := (-1)) d_X12_drop_26 ic_m1 ?_
    refine aw_icmp_ne (tgt := 56) d_X12_drop_27 rfl (fun c7 => ?_) (fun c7 => ?_)
    · have k := k.1 c7
      refine aw_aload_n (i := 0) rfl d_X12_drop_56 0 rfl ?_
      refine aw_getr (k0 := 20) kc_12 (ws_1 w) (Nat.le_of_ble_eq_true rfl) tw_1762 d_X12_drop_57 rfl (wr_1_20 w) ?_
      refine aw_iload_n (i := 1) rfl d_X12_drop_60 1 rfl ?_
      refine aw_dup2 d_X12_drop_61 ⟨rfl, rfl⟩ ?_
      obtain ⟨b8, k⟩ := k
      refine aw_iald (ws_216 w) b8 d_X12_drop_62 ?_
      refine aw_iconst (v := 1) d_X12_drop_63 ic_1 ?_
      refine aw_iadd d_X12_drop_64 ?_
      obtain ⟨b9, k⟩ := k
      refine aw_iast (ws_216 w) b9 d_X12_drop_65 ?_
      refine aw_goto (tgt := 0) d_X12_drop_66 rfl ?_
      exact k
    · have k := k.2 c7
      refine aw_aload_n (i := 0) rfl d_X12_drop_30 0 rfl ?_
      refine aw_getr (k0 := 57) kc_12 (ws_1 w) (Nat.le_of_ble_eq_true rfl) tw_1799 d_X12_drop_31 rfl (wr_1_57 w) ?_
      refine aw_aload_n (i := 0) rfl d_X12_drop_34 0 rfl ?_
      refine aw_getr (k0 := 20) kc_12 (ws_1 w) (Nat.le_of_ble_eq_true rfl) tw_1762 d_X12_drop_35 rfl (wr_1_20 w) ?_
      refine aw_iload_n (i := 1) rfl d_X12_drop_38 1 rfl ?_
      obtain ⟨b10, k⟩ := k
      refine aw_iald (ws_216 w) b10 d_X12_drop_39 ?_
      obtain ⟨b11, k⟩ := k
      refine aw_iald (ws_242 w) b11 d_X12_drop_40 ?_
      refine aw_iconst (v := (-1)) d_X12_drop_41 ic_m1 ?_
      refine aw_icmp_ne (tgt := 56) d_X12_drop_42 rfl (fun c12 => ?_) (fun c12 => ?_)
      · have k := k.1 c12
        refine aw_aload_n (i := 0) rfl d_X12_drop_56 0 rfl ?_
        refine aw_getr (k0 := 20) kc_12 (ws_1 w) (Nat.le_of_ble_eq_true rfl) tw_1762 d_X12_drop_57 rfl (wr_1_20 w) ?_
        refine aw_iload_n (i := 1) rfl d_X12_drop_60 1 rfl ?_
        refine aw_dup2 d_X12_drop_61 ⟨rfl, rfl⟩ ?_
        obtain ⟨b13, k⟩ := k
        refine aw_iald (ws_216 w) b13 d_X12_drop_62 ?_
        refine aw_iconst (v := 1) d_X12_drop_63 ic_1 ?_
        refine aw_iadd d_X12_drop_64 ?_
        obtain ⟨b14, k⟩ := k
        refine aw_iast (ws_216 w) b14 d_X12_drop_65 ?_
        refine aw_goto (tgt := 0) d_X12_drop_66 rfl ?_
        exact k
      · have k := k.2 c12
        refine aw_aload_n (i := 0) rfl d_X12_drop_45 0 rfl ?_
        refine aw_aload_n (i := 0) rfl d_X12_drop_46 0 rfl ?_
        refine aw_getr (k0 := 20) kc_12 (ws_1 w) (Nat.le_of_ble_eq_true rfl) tw_1762 d_X12_drop_47 rfl (wr_1_20 w) ?_
        refine aw_iload_n (i := 1) rfl d_X12_drop_50 1 rfl ?_
        obtain ⟨b15, k⟩ := k
        refine aw_iald (ws_216 w) b15 d_X12_drop_51 ?_
        refine aw_iload_n (i := 2) rfl d_X12_drop_52 2 rfl ?_
        refine aw_Vv 1 [.int (h_i h 216 x1.toNatClampNeg), .int x2] [] d_X12_drop_53 (cV_X12_miss (d + 0) 0 0) kc_12 (ws_1 w) tw_2356 rfl (rr0 (Nat.le_of_ble_eq_true rfl) (Nat.le_of_ble_eq_true rfl)) (Nat.le_of_ble_eq_true rfl) xs0 k (fun h16 kk => ?_)
        obtain ⟨w17, k⟩ := kk
        refine aw_aload_n (i := 0) rfl d_X12_drop_56 0 rfl ?_
        refine aw_getr (k0 := 20) kc_12 (ws_1 w17) (Nat.le_of_ble_eq_true rfl) tw_1762 d_X12_drop_57 rfl (wr_1_20 w17) ?_
        refine aw_iload_n (i := 1) rfl d_X12_drop_60 1 rfl ?_
        refine aw_dup2 d_X12_drop_61 ⟨rfl, rfl⟩ ?_
        obtain ⟨b19, k⟩ := k
        refine aw_iald (ws_216 w17) b19 d_X12_drop_62 ?_
        refine aw_iconst (v := 1) d_X12_drop_63 ic_1 ?_
        refine aw_iadd d_X12_drop_64 ?_
        obtain ⟨b20, k⟩ := k
        refine aw_iast (ws_216 w17) b20 d_X12_drop_65 ?_
        refine aw_goto (tgt := 0) d_X12_drop_66 rfl ?_
        exact k
theorem t_X12_drop_0 (d : Nat) (h : Hp_) (w : Wf h) (x1 : Int32) (x2 : Int32) (K : Hp_ → Prop) (k : vp_in x1 12 ∧ (vp_in x1 12 ∧ (((h_i h 217 x1.toNatClampNeg) ≤ (h_i h 216 x1.toNatClampNeg) → vp_in x1 12 ∧ (K (h_im h 213 x1.toNatClampNeg (-1)))) ∧ (¬ (h_i h 217 x1.toNatClampNeg) ≤ (h_i h 216 x1.toNatClampNeg) → vp_in x1 12 ∧ (vp_in (h_i h 216 x1.toNatClampNeg) 400 ∧ ((¬ (h_i h 241 ((h_i h 216 x1.toNatClampNeg) : Int32).toNatClampNeg) = (-1) → vp_in x1 12 ∧ (vp_in x1 12 ∧ (AW (m_X12_drop (d + 1) 0 0) 0 0 0 [(0, .ref 1), (1, .int x1), (2, .int x2)] [] (h_im h 216 x1.toNatClampNeg ((h_i h 216 x1.toNatClampNeg) + 1)) (kV K)))) ∧ ((h_i h 241 ((h_i h 216 x1.toNatClampNeg) : Int32).toNatClampNeg) = (-1) → vp_in x1 12 ∧ (vp_in (h_i h 216 x1.toNatClampNeg) 400 ∧ ((¬ (h_i h 242 ((h_i h 216 x1.toNatClampNeg) : Int32).toNatClampNeg) = (-1) → vp_in x1 12 ∧ (vp_in x1 12 ∧ (AW (m_X12_drop (d + 1) 0 0) 0 0 0 [(0, .ref 1), (1, .int x1), (2, .int x2)] [] (h_im h 216 x1.toNatClampNeg ((h_i h 216 x1.toNatClampNeg) + 1)) (kV K)))) ∧ ((h_i h 242 ((h_i h 216 x1.toNatClampNeg) : Int32).toNatClampNeg) = (-1) → vp_in x1 12 ∧ (Cv (m_X12_miss (d + 0) 0 0) [.ref 1, .int (h_i h 216 x1.toNatClampNeg), .int x2] h (fun h36 => Wf h36 ∧ (vp_in x1 12 ∧ (vp_in x1 12 ∧ (AW (m_X12_drop (d + 1) 0 0) 0 0 0 [(0, .ref 1), (1, .int x1), (2, .int x2)] [] (h_im h36 216 x1.toNatClampNeg ((h_i h36 216 x1.toNatClampNeg) + 1)) (kV K)))))))))))))))) : AW (m_X12_drop (d + 1) 0 0) 0 0 0 [(0, .ref 1), (1, .int x1), (2, .int x2)] [] h (kV K) := by
  refine aw_aload_n (i := 0) rfl d_X12_drop_0 0 rfl ?_
  refine aw_getr (k0 := 20) kc_12 (ws_1 w) (Nat.le_of_ble_eq_true rfl) tw_1762 d_X12_drop_1 rfl (wr_1_20 w) ?_
  refine aw_iload_n (i := 1) rfl d_X12_drop_4 1 rfl ?_
  obtain ⟨b21, k⟩ := k
  refine aw_iald (ws_216 w) b21 d_X12_drop_5 ?_
  refine aw_aload_n (i := 0) rfl d_X12_drop_6 0 rfl ?_
  refine aw_getr (k0 := 21) kc_12 (ws_1 w) (Nat.le_of_ble_eq_true rfl) tw_1763 d_X12_drop_7 rfl (wr_1_21 w) ?_
  refine aw_iload_n (i := 1) rfl d_X12_drop_10 1 rfl ?_
  obtain ⟨b22, k⟩ := k
  refine aw_iald (ws_217 w) b22 d_X12_drop_11 ?_
  refine aw_icmp_ge (tgt := 69) d_X12_drop_12 rfl (fun c23 => ?_) (fun c23 => ?_)
  · have k := k.1 c23
    refine aw_aload_n (i := 0) rfl d_X12_drop_69 0 rfl ?_
    refine aw_getr (k0 := 17) kc_12 (ws_1 w) (Nat.le_of_ble_eq_true rfl) tw_1759 d_X12_drop_70 rfl (wr_1_17 w) ?_
    refine aw_iload_n (i := 1) rfl d_X12_drop_73 1 rfl ?_
    refine aw_iconst (v := (-1)) d_X12_drop_74 ic_m1 ?_
    obtain ⟨b24, k⟩ := k
    refine aw_iast (ws_213 w) b24 d_X12_drop_75 ?_
    exact aw_vret rfl d_X12_drop_76 ⟨Nat.le_refl _, Nat.le_refl _⟩ ⟨rfl, k⟩
  · have k := k.2 c23
    refine aw_aload_n (i := 0) rfl d_X12_drop_15 0 rfl ?_
    refine aw_getr (k0 := 56) kc_12 (ws_1 w) (Nat.le_of_ble_eq_true rfl) tw_1798 d_X12_drop_16 rfl (wr_1_56 w) ?_
    refine aw_aload_n (i := 0) rfl d_X12_drop_19 0 rfl ?_
    refine aw_getr (k0 := 20) kc_12 (ws_1 w) (Nat.le_of_ble_eq_true rfl) tw_1762 d_X12_drop_20 rfl (wr_1_20 w) ?_
    refine aw_iload_n (i := 1) rfl d_X12_drop_23 1 rfl ?_
    obtain ⟨b25, k⟩ := k
    refine aw_iald (ws_216 w) b25 d_X12_drop_24 ?_
    obtain ⟨b26, k⟩ := k
    refine aw_iald (ws_241 w) b26 d_X12_drop_25 ?_
    refine aw_iconst (v := (-1)) d_X12_drop_26 ic_m1 ?_
    refine aw_icmp_ne (tgt := 56) d_X12_drop_27 rfl (fun c27 => ?_) (fun c27 => ?_)
    · have k := k.1 c27
      refine aw_aload_n (i := 0) rfl d_X12_drop_56 0 rfl ?_
      refine aw_getr (k0 := 20) kc_12 (ws_1 w) (Nat.le_of_ble_eq_true rfl) tw_1762 d_X12_drop_57 rfl (wr_1_20 w) ?_
      refine aw_iload_n (i := 1) rfl d_X12_drop_60 1 rfl ?_
      refine aw_dup2 d_X12_drop_61 ⟨rfl, rfl⟩ ?_
      obtain ⟨b28, k⟩ := k
      refine aw_iald (ws_216 w) b28 d_X12_drop_62 ?_
      refine aw_iconst (v := 1) d_X12_drop_63 ic_1 ?_
      refine aw_iadd d_X12_drop_64 ?_
      obtain ⟨b29, k⟩ := k
      refine aw_iast (ws_216 w) b29 d_X12_drop_65 ?_
      refine aw_goto (tgt := 0) d_X12_drop_66 rfl ?_
      exact k
    · have k := k.2 c27
      refine aw_aload_n (i := 0) rfl d_X12_drop_30 0 rfl ?_
      refine aw_getr (k0 := 57) kc_12 (ws_1 w) (Nat.le_of_ble_eq_true rfl) tw_1799 d_X12_drop_31 rfl (wr_1_57 w) ?_
      refine aw_aload_n (i := 0) rfl d_X12_drop_34 0 rfl ?_
      refine aw_getr (k0 := 20) kc_12 (ws_1 w) (Nat.le_of_ble_eq_true rfl) tw_1762 d_X12_drop_35 rfl (wr_1_20 w) ?_
      refine aw_iload_n (i := 1) rfl d_X12_drop_38 1 rfl ?_
      obtain ⟨b30, k⟩ := k
      refine aw_iald (ws_216 w) b30 d_X12_drop_39 ?_
      obtain ⟨b31, k⟩ := k
      refine aw_iald (ws_242 w) b31 d_X12_drop_40 ?_
      refine aw_iconst (v := (-1)) d_X12_drop_41 ic_m1 ?_
      refine aw_icmp_ne (tgt := 56) d_X12_drop_42 rfl (fun c32 => ?_) (fun c32 => ?_)
      · have k := k.1 c32
        refine aw_aload_n (i := 0) rfl d_X12_drop_56 0 rfl ?_
        refine aw_getr (k0 := 20) kc_12 (ws_1 w) (Nat.le_of_ble_eq_true rfl) tw_1762 d_X12_drop_57 rfl (wr_1_20 w) ?_
        refine aw_iload_n (i := 1) rfl d_X12_drop_60 1 rfl ?_
        refine aw_dup2 d_X12_drop_61 ⟨rfl, rfl⟩ ?_
        obtain ⟨b33, k⟩ := k
        refine aw_iald (ws_216 w) b33 d_X12_drop_62 ?_
        refine aw_iconst (v := 1) d_X12_drop_63 ic_1 ?_
        refine aw_iadd d_X12_drop_64 ?_
        obtain ⟨b34, k⟩ := k
        refine aw_iast (ws_216 w) b34 d_X12_drop_65 ?_
        refine aw_goto (tgt := 0) d_X12_drop_66 rfl ?_
        exact k
      · have k := k.2 c32
        refine aw_aload_n (i := 0) rfl d_X12_drop_45 0 rfl ?_
        refine aw_aload_n (i := 0) rfl d_X12_drop_46 0 rfl ?_
        refine aw_getr (k0 := 20) kc_12 (ws_1 w) (Nat.le_of_ble_eq_true rfl) tw_1762 d_X12_drop_47 rfl (wr_1_20 w) ?_
        refine aw_iload_n (i := 1) rfl d_X12_drop_50 1 rfl ?_
        obtain ⟨b35, k⟩ := k
        refine aw_iald (ws_216 w) b35 d_X12_drop_51 ?_
        refine aw_iload_n (i := 2) rfl d_X12_drop_52 2 rfl ?_
        refine aw_Vv 1 [.int (h_i h 216 x1.toNatClampNeg), .int x2] [] d_X12_drop_53 (cV_X12_miss (d + 0) 0 0) kc_12 (ws_1 w) tw_2356 rfl (rr0 (Nat.le_of_ble_eq_true rfl) (Nat.le_of_ble_eq_true rfl)) (Nat.le_of_ble_eq_true rfl) xs0 k (fun h36 kk => ?_)
        obtain ⟨w37, k⟩ := kk
        refine aw_aload_n (i := 0) rfl d_X12_drop_56 0 rfl ?_
        refine aw_getr (k0 := 20) kc_12 (ws_1 w37) (Nat.le_of_ble_eq_true rfl) tw_1762 d_X12_drop_57 rfl (wr_1_20 w37) ?_
        refine aw_iload_n (i := 1) rfl d_X12_drop_60 1 rfl ?_
        refine aw_dup2 d_X12_drop_61 ⟨rfl, rfl⟩ ?_
        obtain ⟨b39, k⟩ := k
        refine aw_iald (ws_216 w37) b39 d_X12_drop_62 ?_
        refine aw_iconst (v := 1) d_X12_drop_63 ic_1 ?_
        refine aw_iadd d_X12_drop_64 ?_
        obtain ⟨b40, k⟩ := k
        refine aw_iast (ws_216 w37) b40 d_X12_drop_65 ?_
        refine aw_goto (tgt := 0) d_X12_drop_66 rfl ?_
        exact k
theorem t_X12_cause (d : Nat) (h : Hp_) (w : Wf h) (x1 : Int32) (x2 : Int32) (K : Int32 → Hp_ → Prop) (k : (¬ (0 ≤ x1 ∧ x1 ≤ ((h_i h 1 63) - 1)) → K 0 h) ∧ ((0 ≤ x1 ∧ x1 ≤ ((h_i h 1 63) - 1)) → Ci (m_X12_stateOf (d + 0) 0 0) [.ref 1, .int x1, .int (h_i h 1 0)] h (fun r6 h4 => Wf h4 ∧ ((¬ r6 = 2 → K 0 h4) ∧ (r6 = 2 → (¬ (1 ≤ x2 ∧ x2 ≤ 9) → K 0 h4) ∧ ((1 ≤ x2 ∧ x2 ≤ 9) → (¬ (h_i h4 1 64) = 200 → vp_in (h_i h4 1 64) 200 ∧ (vp_in (h_i h4 1 64) 200 ∧ (vp_in (h_i h4 1 64) 200 ∧ (K 1 (h_im (h_im (h_im (h_im h4 245 ((h_i h4 1 64) : Int32).toNatClampNeg x1) 246 ((h_i h4 1 64) : Int32).toNatClampNeg x2) 247 ((h_i h4 1 64) : Int32).toNatClampNeg (h_i h4 1 0)) 1 64 ((h_i h4 1 64) + 1)))))) ∧ ((h_i h4 1 64) = 200 → K 0 h4))))))) : Ci (m_X12_cause (d + 1) 0 0) [.ref 1, .int x1, .int x2] h K := by
  refine Ct.of (fun _ _ _ => trivial) rfl (Nat.le_of_ble_eq_true rfl) ?_
  show AW (m_X12_cause (d + 1) 0 0) 0 0 0 [(0, .ref 1), (1, .int x1), (2, .int x2)] [] h (kI K)
  refine aw_iload_n (i := 1) rfl d_X12_cause_0 1 rfl ?_
  refine aw_iconst (v := 0) d_X12_cause_1 ic_0 ?_
  refine aw_aload_n (i := 0) rfl d_X12_cause_2 0 rfl ?_
  refine aw_geti (k0 := 63) kc_12 (ws_1 w) (Nat.le_of_ble_eq_true rfl) tw_1805 d_X12_cause_3 rfl ?_
  refine aw_iconst (v := 1) d_X12_cause_6 ic_1 ?_
  refine aw_isub d_X12_cause_7 ?_
  refine aw_Si [.int x1, .int 0, .int ((h_i h 1 63) - 1)] [] d_X12_cause_8 (cS_X12_in (d + 0) 0 0) tw_2147 rfl (rr0 (Nat.le_of_ble_eq_true rfl) (Nat.le_of_ble_eq_true rfl)) (Nat.le_of_ble_eq_true rfl) xs0 (s_X12_in _ _ x1 0 ((h_i h 1 63) - 1)) (fun _ _ kk => ?_)
  obtain ⟨e1, e2⟩ := kk
  rw [e1, e2]
  refine aw_ifb_eq (tgt := 47) d_X12_cause_11 rfl (fun c3 => ?_) (fun c3 => ?_)
  · have k := k.1 c3
    refine aw_iconst (v := 0) d_X12_cause_47 ic_0 ?_
    exact aw_zret rfl rfl d_X12_cause_48 ⟨Nat.le_refl _, Nat.le_refl _⟩ ⟨_, rfl, k⟩
  · have k := k.2 c3
    refine aw_aload_n (i := 0) rfl d_X12_cause_14 0 rfl ?_
    refine aw_iload_n (i := 1) rfl d_X12_cause_15 1 rfl ?_
    refine aw_aload_n (i := 0) rfl d_X12_cause_16 0 rfl ?_
    refine aw_geti (k0 := 0) kc_12 (ws_1 w) (Nat.le_of_ble_eq_true rfl) tw_1742 d_X12_cause_17 rfl ?_
    refine aw_Vi 1 [.int x1, .int (h_i h 1 0)] [] d_X12_cause_20 (cV_X12_stateOf (d + 0) 0 0) kc_12 (ws_1 w) tw_2320 rfl (rr0 (Nat.le_of_ble_eq_true rfl) (Nat.le_of_ble_eq_true rfl)) (Nat.le_of_ble_eq_true rfl) xs0 k (fun r6 h4 kk => ?_)
    obtain ⟨w5, k⟩ := kk
    refine aw_iconst (v := 2) d_X12_cause_23 ic_2 ?_
    refine aw_icmp_ne (tgt := 47) d_X12_cause_24 rfl (fun c7 => ?_) (fun c7 => ?_)
    · have k := k.1 c7
      refine aw_iconst (v := 0) d_X12_cause_47 ic_0 ?_
      exact aw_zret rfl rfl d_X12_cause_48 ⟨Nat.le_refl _, Nat.le_refl _⟩ ⟨_, rfl, k⟩
    · have k := k.2 c7
      refine aw_iload_n (i := 2) rfl d_X12_cause_27 2 rfl ?_
      refine aw_iconst (v := 1) d_X12_cause_28 ic_1 ?_
      refine aw_bipush (v := 9) d_X12_cause_29 ib_9 ?_
      refine aw_Si [.int x2, .int 1, .int 9] [] d_X12_cause_31 (cS_X12_in (d + 0) 0 0) tw_2147 rfl (rr0 (Nat.le_of_ble_eq_true rfl) (Nat.le_of_ble_eq_true rfl)) (Nat.le_of_ble_eq_true rfl) xs0 (s_X12_in _ _ x2 1 9) (fun _ _ kk => ?_)
      obtain ⟨e8, e9⟩ := kk
      rw [e8, e9]
      refine aw_ifb_eq (tgt := 47) d_X12_cause_34 rfl (fun c10 => ?_) (fun c10 => ?_)
      · have k := k.1 c10
        refine aw_iconst (v := 0) d_X12_cause_47 ic_0 ?_
        exact aw_zret rfl rfl d_X12_cause_48 ⟨Nat.le_refl _, Nat.le_refl _⟩ ⟨_, rfl, k⟩
      · have k := k.2 c10
        refine aw_aload_n (i := 0) rfl d_X12_cause_37 0 rfl ?_
        refine aw_geti (k0 := 64) kc_12 (ws_1 w5) (Nat.le_of_ble_eq_true rfl) tw_1806 d_X12_cause_38 rfl ?_
        refine aw_sipush (v := 200) d_X12_cause_41 is_200 ?_
        refine aw_icmp_ne (tgt := 49) d_X12_cause_44 rfl (fun c11 => ?_) (fun c11 => ?_)
        · have k := k.1 c11
          refine aw_aload_n (i := 0) rfl d_X12_cause_49 0 rfl ?_
          refine aw_getr (k0 := 60) kc_12 (ws_1 w5) (Nat.le_of_ble_eq_true rfl) tw_1802 d_X12_cause_50 rfl (wr_1_60 w5) ?_
          refine aw_aload_n (i := 0) rfl d_X12_cause_53 0 rfl ?_
          refine aw_geti (k0 := 64) kc_12 (ws_1 w5) (Nat.le_of_ble_eq_true rfl) tw_1806 d_X12_cause_54 rfl ?_
          refine aw_iload_n (i := 1) rfl d_X12_cause_57 1 rfl ?_
          obtain ⟨b12, k⟩ := k
          refine aw_iast (ws_245 w5) b12 d_X12_cause_58 ?_
          refine aw_aload_n (i := 0) rfl d_X12_cause_59 0 rfl ?_
          refine aw_getr (k0 := 61) kc_12 (ws_1 w5) (Nat.le_of_ble_eq_true rfl) tw_1803 d_X12_cause_60 rfl (wr_1_61 w5) ?_
          refine aw_aload_n (i := 0) rfl d_X12_cause_63 0 rfl ?_
          refine aw_geti (k0 := 64) kc_12 (ws_1 w5) (Nat.le_of_ble_eq_true rfl) tw_1806 d_X12_cause_64 rfl ?_
          refine aw_vi (v2 := (h_i h4 1 64)) (rfl) ?_
          refine aw_iload_n (i := 2) rfl d_X12_cause_67 2 rfl ?_
          obtain ⟨b13, k⟩ := k
          refine aw_iast (ws_246 w5) b13 d_X12_cause_68 ?_
          refine aw_aload_n (i := 0) rfl d_X12_cause_69 0 rfl ?_
          refine aw_getr (k0 := 62) kc_12 (ws_1 w5) (Nat.le_of_ble_eq_true rfl) tw_1804 d_X12_cause_70 rfl (wr_1_62 w5) ?_
          refine aw_aload_n (i := 0) rfl d_X12_cause_73 0 rfl ?_
          refine aw_geti (k0 := 64) kc_12 (ws_1 w5) (Nat.le_of_ble_eq_true rfl) tw_1806 d_X12_cause_74 rfl ?_
          refine aw_vi (v2 := (h_i h4 1 64)) (rfl) ?_
          refine aw_aload_n (i := 0) rfl d_X12_cause_77 0 rfl ?_
          refine aw_geti (k0 := 0) kc_12 (ws_1 w5) (Nat.le_of_ble_eq_true rfl) tw_1742 d_X12_cause_78 rfl ?_
          refine aw_vi (v2 := (h_i h4 1 0)) (rfl) ?_
          obtain ⟨b14, k⟩ := k
          refine aw_iast (ws_247 w5) b14 d_X12_cause_81 ?_
          refine aw_aload_n (i := 0) rfl d_X12_cause_82 0 rfl ?_
          refine aw_dup d_X12_cause_83 rfl ?_
          refine aw_geti (k0 := 64) kc_12 (ws_1 w5) (Nat.le_of_ble_eq_true rfl) tw_1806 d_X12_cause_84 rfl ?_
          refine aw_vi (v2 := (h_i h4 1 64)) (rfl) ?_
          refine aw_iconst (v := 1) d_X12_cause_87 ic_1 ?_
          refine aw_iadd d_X12_cause_88 ?_
          refine aw_puti (k0 := 64) kc_12 (ws_1 w5) (Nat.le_of_ble_eq_true rfl) tw_1806 d_X12_cause_89 rfl rfl nf_i ?_
          refine aw_iconst (v := 1) d_X12_cause_92 ic_1 ?_
          exact aw_zret rfl rfl d_X12_cause_93 ⟨Nat.le_refl _, Nat.le_refl _⟩ ⟨_, rfl, k⟩
        · have k := k.2 c11
          refine aw_iconst (v := 0) d_X12_cause_47 ic_0 ?_
          exact aw_zret rfl rfl d_X12_cause_48 ⟨Nat.le_refl _, Nat.le_refl _⟩ ⟨_, rfl, k⟩
theorem t_X12_setOut (d : Nat) (h : Hp_) (w : Wf h) (x1 : Int32) (x2 : Int32) (K : Hp_ → Prop) (k : vp_in x1 12 ∧ (Ci (m_X12_walkOf (d + 0) 0 0) [.ref 1, .int (h_i h 209 x1.toNatClampNeg), .int x2] h (fun r4 h2 => Wf h2 ∧ ((¬ r4 = 0 → vp_in x1 12 ∧ (vp_in x1 12 ∧ (vp_in x1 12 ∧ (K (h_im (h_im (h_im h2 209 x1.toNatClampNeg (-1)) 210 x1.toNatClampNeg x2) 211 x1.toNatClampNeg ((h_i h2 1 0) + r4)))))) ∧ (r4 = 0 → K h2))))) : Cv (m_X12_setOut (d + 1) 0 0) [.ref 1, .int x1, .int x2] h K := by
  refine Ct.of (fun _ _ _ => trivial) rfl (Nat.le_of_ble_eq_true rfl) ?_
  show AW (m_X12_setOut (d + 1) 0 0) 0 0 0 [(0, .ref 1), (1, .int x1), (2, .int x2)] [] h (kV K)
  refine aw_aload_n (i := 0) rfl d_X12_setOut_0 0 rfl ?_
  refine aw_aload_n (i := 0) rfl d_X12_setOut_1 0 rfl ?_
  refine aw_getr (k0 := 13) kc_12 (ws_1 w) (Nat.le_of_ble_eq_true rfl) tw_1755 d_X12_setOut_2 rfl (wr_1_13 w) ?_
  refine aw_iload_n (i := 1) rfl d_X12_setOut_5 1 rfl ?_
  obtain ⟨b1, k⟩ := k
  refine aw_iald (ws_209 w) b1 d_X12_setOut_6 ?_
  refine aw_iload_n (i := 2) rfl d_X12_setOut_7 2 rfl ?_
  refine aw_Vi 1 [.int (h_i h 209 x1.toNatClampNeg), .int x2] [] d_X12_setOut_8 (cV_X12_walkOf (d + 0) 0 0) kc_12 (ws_1 w) tw_2154 rfl (rr0 (Nat.le_of_ble_eq_true rfl) (Nat.le_of_ble_eq_true rfl)) (Nat.le_of_ble_eq_true rfl) xs0 k (fun r4 h2 kk => ?_)
  obtain ⟨w3, k⟩ := kk
  refine aw_istore_n (i := 3) rfl [(0, .ref 1), (1, .int x1), (2, .int x2), (3, .int r4)] d_X12_setOut_11 (Nat.le_of_ble_eq_true rfl) rfl rfl ?_
  refine aw_iload_n (i := 3) rfl d_X12_setOut_12 3 rfl ?_
  refine aw_if_ne (tgt := 17) d_X12_setOut_13 rfl (fun c5 => ?_) (fun c5 => ?_)
  · have k := k.1 c5
    refine aw_aload_n (i := 0) rfl d_X12_setOut_17 0 rfl ?_
    refine aw_getr (k0 := 13) kc_12 (ws_1 w3) (Nat.le_of_ble_eq_true rfl) tw_1755 d_X12_setOut_18 rfl (wr_1_13 w3) ?_
    refine aw_iload_n (i := 1) rfl d_X12_setOut_21 1 rfl ?_
    refine aw_iconst (v := (-1)) d_X12_setOut_22 ic_m1 ?_
    obtain ⟨b6, k⟩ := k
    refine aw_iast (ws_209 w3) b6 d_X12_setOut_23 ?_
    refine aw_aload_n (i := 0) rfl d_X12_setOut_24 0 rfl ?_
    refine aw_getr (k0 := 14) kc_12 (ws_1 w3) (Nat.le_of_ble_eq_true rfl) tw_1756 d_X12_setOut_25 rfl (wr_1_14 w3) ?_
    refine aw_iload_n (i := 1) rfl d_X12_setOut_28 1 rfl ?_
    refine aw_iload_n (i := 2) rfl d_X12_setOut_29 2 rfl ?_
    obtain ⟨b7, k⟩ := k
    refine aw_iast (ws_210 w3) b7 d_X12_setOut_30 ?_
    refine aw_aload_n (i := 0) rfl d_X12_setOut_31 0 rfl ?_
    refine aw_getr (k0 := 15) kc_12 (ws_1 w3) (Nat.le_of_ble_eq_true rfl) tw_1757 d_X12_setOut_32 rfl (wr_1_15 w3) ?_
    refine aw_iload_n (i := 1) rfl d_X12_setOut_35 1 rfl ?_
    refine aw_aload_n (i := 0) rfl d_X12_setOut_36 0 rfl ?_
    refine aw_geti (k0 := 0) kc_12 (ws_1 w3) (Nat.le_of_ble_eq_true rfl) tw_1742 d_X12_setOut_37 rfl ?_
    refine aw_vi (v2 := (h_i h2 1 0)) (rfl) ?_
    refine aw_iload_n (i := 3) rfl d_X12_setOut_40 3 rfl ?_
    refine aw_iadd d_X12_setOut_41 ?_
    obtain ⟨b8, k⟩ := k
    refine aw_iast (ws_211 w3) b8 d_X12_setOut_42 ?_
    exact aw_vret rfl d_X12_setOut_43 ⟨Nat.le_refl _, Nat.le_refl _⟩ ⟨rfl, k⟩
  · have k := k.2 c5
    exact aw_vret rfl d_X12_setOut_16 ⟨Nat.le_refl _, Nat.le_refl _⟩ ⟨rfl, k⟩
theorem t_X12_comes (d : Nat) (h : Hp_) (w : Wf h) (x1 : Int32) (x2 : Int32) (K : Int32 → Hp_ → Prop) (k : vp_in x1 12 ∧ (vp_in x1 12 ∧ (vp_in x1 12 ∧ (vp_in x1 12 ∧ (((h_i h 1 0) ≤ ((h_i h 214 x1.toNatClampNeg) + x2) → vp_in (h_i h 216 x1.toNatClampNeg) 400 ∧ ((((h_i h 214 x1.toNatClampNeg) + x2) ≤ (h_i h 1 0) → K 0 (h_im (h_im h 216 x1.toNatClampNeg ((h_i h 216 x1.toNatClampNeg) + 1)) 241 ((h_i h 216 x1.toNatClampNeg) : Int32).toNatClampNeg (h_i h 1 0))) ∧ (¬ ((h_i h 214 x1.toNatClampNeg) + x2) ≤ (h_i h 1 0) → vp_in x1 12 ∧ (K 1 (h_im (h_im (h_im h 216 x1.toNatClampNeg ((h_i h 216 x1.toNatClampNeg) + 1)) 241 ((h_i h 216 x1.toNatClampNeg) : Int32).toNatClampNeg (h_i h 1 0)) 211 x1.toNatClampNeg ((h_i h 214 x1.toNatClampNeg) + x2)))))) ∧ (¬ (h_i h 1 0) ≤ ((h_i h 214 x1.toNatClampNeg) + x2) → Cv (m_X12_miss (d + 0) 0 0) [.ref 1, .int (h_i h 216 x1.toNatClampNeg), .int 1] (h_im h 216 x1.toNatClampNeg ((h_i h 216 x1.toNatClampNeg) + 1)) (fun h9 => Wf h9 ∧ (K 0 h9)))))))) : Ci (m_X12_comes (d + 1) 0 0) [.ref 1, .int x1, .int x2] h K := by
  refine Ct.of (fun _ _ _ => trivial) rfl (Nat.le_of_ble_eq_true rfl) ?_
  show AW (m_X12_comes (d + 1) 0 0) 0 0 0 [(0, .ref 1), (1, .int x1), (2, .int x2)] [] h (kI K)
  refine aw_aload_n (i := 0) rfl d_X12_comes_0 0 rfl ?_
  refine aw_getr (k0 := 18) kc_12 (ws_1 w) (Nat.le_of_ble_eq_true rfl) tw_1760 d_X12_comes_1 rfl (wr_1_18 w) ?_
  refine aw_iload_n (i := 1) rfl d_X12_comes_4 1 rfl ?_
  obtain ⟨b1, k⟩ := k
  refine aw_iald (ws_214 w) b1 d_X12_comes_5 ?_
  refine aw_iload_n (i := 2) rfl d_X12_comes_6 2 rfl ?_
  refine aw_iadd d_X12_comes_7 ?_
  refine aw_istore_n (i := 3) rfl [(0, .ref 1), (1, .int x1), (2, .int x2), (3, .int ((h_i h 214 x1.toNatClampNeg) + x2))] d_X12_comes_8 (Nat.le_of_ble_eq_true rfl) rfl rfl ?_
  refine aw_aload_n (i := 0) rfl d_X12_comes_9 0 rfl ?_
  refine aw_getr (k0 := 20) kc_12 (ws_1 w) (Nat.le_of_ble_eq_true rfl) tw_1762 d_X12_comes_10 rfl (wr_1_20 w) ?_
  refine aw_iload_n (i := 1) rfl d_X12_comes_13 1 rfl ?_
  obtain ⟨b2, k⟩ := k
  refine aw_iald (ws_216 w) b2 d_X12_comes_14 ?_
  refine aw_istore [(0, .ref 1), (1, .int x1), (2, .int x2), (3, .int ((h_i h 214 x1.toNatClampNeg) + x2)), (4, .int (h_i h 216 x1.toNatClampNeg))] d_X12_comes_15 (Nat.le_of_ble_eq_true rfl) rfl rfl ?_
  refine aw_aload_n (i := 0) rfl d_X12_comes_17 0 rfl ?_
  refine aw_getr (k0 := 20) kc_12 (ws_1 w) (Nat.le_of_ble_eq_true rfl) tw_1762 d_X12_comes_18 rfl (wr_1_20 w) ?_
  refine aw_iload_n (i := 1) rfl d_X12_comes_21 1 rfl ?_
  refine aw_dup2 d_X12_comes_22 ⟨rfl, rfl⟩ ?_
  obtain ⟨b3, k⟩ := k
  refine aw_iald (ws_216 w) b3 d_X12_comes_23 ?_
  refine aw_iconst (v := 1) d_X12_comes_24 ic_1 ?_
  refine aw_iadd d_X12_comes_25 ?_
  obtain ⟨b4, k⟩ := k
  refine aw_iast (ws_216 w) b4 d_X12_comes_26 ?_
  refine aw_aload_n (i := 0) rfl d_X12_comes_27 0 rfl ?_
  refine aw_geti (k0 := 0) kc_12 (ws_1 w) (Nat.le_of_ble_eq_true rfl) tw_1742 d_X12_comes_28 rfl ?_
  refine aw_vi (v2 := (h_i h 1 0)) (rfl) ?_
  refine aw_iload_n (i := 3) rfl d_X12_comes_31 3 rfl ?_
  refine aw_icmp_le (tgt := 44) d_X12_comes_32 rfl (fun c5 => ?_) (fun c5 => ?_)
  · have k := k.1 c5
    refine aw_aload_n (i := 0) rfl d_X12_comes_44 0 rfl ?_
    refine aw_getr (k0 := 56) kc_12 (ws_1 w) (Nat.le_of_ble_eq_true rfl) tw_1798 d_X12_comes_45 rfl (wr_1_56 w) ?_
    refine aw_iload d_X12_comes_48 4 rfl ?_
    refine aw_aload_n (i := 0) rfl d_X12_comes_50 0 rfl ?_
    refine aw_geti (k0 := 0) kc_12 (ws_1 w) (Nat.le_of_ble_eq_true rfl) tw_1742 d_X12_comes_51 rfl ?_
    refine aw_vi (v2 := (h_i h 1 0)) (rfl) ?_
    obtain ⟨b6, k⟩ := k
    refine aw_iast (ws_241 w) b6 d_X12_comes_54 ?_
    refine aw_aload_n (i := 0) rfl d_X12_comes_55 0 rfl ?_
    refine aw_geti (k0 := 0) kc_12 (ws_1 w) (Nat.le_of_ble_eq_true rfl) tw_1742 d_X12_comes_56 rfl ?_
    refine aw_vi (v2 := (h_i h 1 0)) (rfl) ?_
    refine aw_iload_n (i := 3) rfl d_X12_comes_59 3 rfl ?_
    refine aw_icmp_ge (tgt := 72) d_X12_comes_60 rfl (fun c7 => ?_) (fun c7 => ?_)
    · have k := k.1 c7
      refine aw_iconst (v := 0) d_X12_comes_72 ic_0 ?_
      exact aw_zret rfl rfl d_X12_comes_73 ⟨Nat.le_refl _, Nat.le_refl _⟩ ⟨_, rfl, k⟩
    · have k := k.2 c7
      refine aw_aload_n (i := 0) rfl d_X12_comes_63 0 rfl ?_
      refine aw_getr (k0 := 15) kc_12 (ws_1 w) (Nat.le_of_ble_eq_true rfl) tw_1757 d_X12_comes_64 rfl (wr_1_15 w) ?_
      refine aw_iload_n (i := 1) rfl d_X12_comes_67 1 rfl ?_
      refine aw_iload_n (i := 3) rfl d_X12_comes_68 3 rfl ?_
      obtain ⟨b8, k⟩ := k
      refine aw_iast (ws_211 w) b8 d_X12_comes_69 ?_
      refine aw_iconst (v := 1) d_X12_comes_70 ic_1 ?_
      exact aw_zret rfl rfl d_X12_comes_71 ⟨Nat.le_refl _, Nat.le_refl _⟩ ⟨_, rfl, k⟩
  · have k := k.2 c5
    refine aw_aload_n (i := 0) rfl d_X12_comes_35 0 rfl ?_
    refine aw_iload d_X12_comes_36 4 rfl ?_
    refine aw_iconst (v := 1) d_X12_comes_38 ic_1 ?_
    refine aw_Vv 1 [.int (h_i h 216 x1.toNatClampNeg), .int 1] [] d_X12_comes_39 (cV_X12_miss (d + 0) 0 0) kc_12 (ws_1 w) tw_2356 rfl (rr0 (Nat.le_of_ble_eq_true rfl) (Nat.le_of_ble_eq_true rfl)) (Nat.le_of_ble_eq_true rfl) xs0 k (fun h9 kk => ?_)
    obtain ⟨w10, k⟩ := kk
    refine aw_iconst (v := 0) d_X12_comes_42 ic_0 ?_
    exact aw_zret rfl rfl d_X12_comes_43 ⟨Nat.le_refl _, Nat.le_refl _⟩ ⟨_, rfl, k⟩
theorem t_X12_sighting (d : Nat) (h : Hp_) (w : Wf h) (x1 : Int32) (x2 : Int32) (K : Int32 → Hp_ → Prop) (k : ((0 ≤ x1 ∧ x1 ≤ ((h_i h 1 80) - 1)) → (x2 = 0 → vp_in x1 300 ∧ (K (h_i h 255 x1.toNatClampNeg) h)) ∧ ((x2 = 1 → vp_in x1 300 ∧ (K (h_i h 256 x1.toNatClampNeg) h)) ∧ ((x2 = 2 → vp_in x1 300 ∧ (K (h_i h 257 x1.toNatClampNeg) h)) ∧ ((x2 = 3 → vp_in x1 300 ∧ (K (h_i h 258 x1.toNatClampNeg) h)) ∧ ((x2 = 4 → vp_in x1 300 ∧ (K (h_i h 259 x1.toNatClampNeg) h)) ∧ ((x2 = 5 → vp_in x1 300 ∧ (K (h_i h 260 x1.toNatClampNeg) h)) ∧ ((¬ x2 = 0 ∧ ¬ x2 = 1 ∧ ¬ x2 = 2 ∧ ¬ x2 = 3 ∧ ¬ x2 = 4 ∧ ¬ x2 = 5 → K (-1) h)))))))) ∧ (¬ (0 ≤ x1 ∧ x1 ≤ ((h_i h 1 80) - 1)) → K (-1) h)) : Ci (m_X12_sighting (d + 1) 0 0) [.ref 1, .int x1, .int x2] h K := by
  refine Ct.of (fun _ _ _ => trivial) rfl (Nat.le_of_ble_eq_true rfl) ?_
  show AW (m_X12_sighting (d + 1) 0 0) 0 0 0 [(0, .ref 1), (1, .int x1), (2, .int x2)] [] h (kI K)
  refine aw_iload_n (i := 1) rfl d_X12_sighting_0 1 rfl ?_
  refine aw_iconst (v := 0) d_X12_sighting_1 ic_0 ?_
  refine aw_aload_n (i := 0) rfl d_X12_sighting_2 0 rfl ?_
  refine aw_geti (k0 := 80) kc_12 (ws_1 w) (Nat.le_of_ble_eq_true rfl) tw_1822 d_X12_sighting_3 rfl ?_
  refine aw_iconst (v := 1) d_X12_sighting_6 ic_1 ?_
  refine aw_isub d_X12_sighting_7 ?_
  refine aw_Si [.int x1, .int 0, .int ((h_i h 1 80) - 1)] [] d_X12_sighting_8 (cS_X12_in (d + 0) 0 0) tw_2147 rfl (rr0 (Nat.le_of_ble_eq_true rfl) (Nat.le_of_ble_eq_true rfl)) (Nat.le_of_ble_eq_true rfl) xs0 (s_X12_in _ _ x1 0 ((h_i h 1 80) - 1)) (fun _ _ kk => ?_)
  obtain ⟨e1, e2⟩ := kk
  rw [e1, e2]
  refine aw_ifb_ne (tgt := 16) d_X12_sighting_11 rfl (fun c3 => ?_) (fun c3 => ?_)
  · have k := k.1 c3
    refine aw_iload_n (i := 2) rfl d_X12_sighting_16 2 rfl ?_
    by_cases e4 : x2 = 0
    · refine aw_tableIn (off := 39) (tgt := 56) d_X12_sighting_17 (by rw [e4]; decide) (by rw [e4]; decide) (by rw [e4]; decide) rfl ?_
      have k := k.1 e4
      refine aw_aload_n (i := 0) rfl d_X12_sighting_56 0 rfl ?_
      refine aw_getr (k0 := 72) kc_12 (ws_1 w) (Nat.le_of_ble_eq_true rfl) tw_1814 d_X12_sighting_57 rfl (wr_1_72 w) ?_
      refine aw_iload_n (i := 1) rfl d_X12_sighting_60 1 rfl ?_
      obtain ⟨b5, k⟩ := k
      refine aw_iald (ws_255 w) b5 d_X12_sighting_61 ?_
      exact aw_iret rfl d_X12_sighting_62 ⟨Nat.le_refl _, Nat.le_refl _⟩ ⟨_, rfl, k⟩
    · have k := k.2
      by_cases e6 : x2 = 1
      · refine aw_tableIn (off := 46) (tgt := 63) d_X12_sighting_17 (by rw [e6]; decide) (by rw [e6]; decide) (by rw [e6]; decide) rfl ?_
        have k := k.1 e6
        refine aw_aload_n (i := 0) rfl d_X12_sighting_63 0 rfl ?_
        refine aw_getr (k0 := 73) kc_12 (ws_1 w) (Nat.le_of_ble_eq_true rfl) tw_1815 d_X12_sighting_64 rfl (wr_1_73 w) ?_
        refine aw_iload_n (i := 1) rfl d_X12_sighting_67 1 rfl ?_
        obtain ⟨b7, k⟩ := k
        refine aw_iald (ws_256 w) b7 d_X12_sighting_68 ?_
        exact aw_iret rfl d_X12_sighting_69 ⟨Nat.le_refl _, Nat.le_refl _⟩ ⟨_, rfl, k⟩
      · have k := k.2
        by_cases e8 : x2 = 2
        · refine aw_tableIn (off := 53) (tgt := 70) d_X12_sighting_17 (by rw [e8]; decide) (by rw [e8]; decide) (by rw [e8]; decide) rfl ?_
          have k := k.1 e8
          refine aw_aload_n (i := 0) rfl d_X12_sighting_70 0 rfl ?_
          refine aw_getr (k0 := 74) kc_12 (ws_1 w) (Nat.le_of_ble_eq_true rfl) tw_1816 d_X12_sighting_71 rfl (wr_1_74 w) ?_
          refine aw_iload_n (i := 1) rfl d_X12_sighting_74 1 rfl ?_
          obtain ⟨b9, k⟩ := k
          refine aw_iald (ws_257 w) b9 d_X12_sighting_75 ?_
          exact aw_iret rfl d_X12_sighting_76 ⟨Nat.le_refl _, Nat.le_refl _⟩ ⟨_, rfl, k⟩
        · have k := k.2
          by_cases e10 : x2 = 3
          · refine aw_tableIn (off := 60) (tgt := 77) d_X12_sighting_17 (by rw [e10]; decide) (by rw [e10]; decide) (by rw [e10]; decide) rfl ?_
            have k := k.1 e10
            refine aw_aload_n (i := 0) rfl d_X12_sighting_77 0 rfl ?_
            refine aw_getr (k0 := 75) kc_12 (ws_1 w) (Nat.le_of_ble_eq_true rfl) tw_1817 d_X12_sighting_78 rfl (wr_1_75 w) ?_
            refine aw_iload_n (i := 1) rfl d_X12_sighting_81 1 rfl ?_
            obtain ⟨b11, k⟩ := k
            refine aw_iald (ws_258 w) b11 d_X12_sighting_82 ?_
            exact aw_iret rfl d_X12_sighting_83 ⟨Nat.le_refl _, Nat.le_refl _⟩ ⟨_, rfl, k⟩
          · have k := k.2
            by_cases e12 : x2 = 4
            · refine aw_tableIn (off := 67) (tgt := 84) d_X12_sighting_17 (by rw [e12]; decide) (by rw [e12]; decide) (by rw [e12]; decide) rfl ?_
              have k := k.1 e12
              refine aw_aload_n (i := 0) rfl d_X12_sighting_84 0 rfl ?_
              refine aw_getr (k0 := 76) kc_12 (ws_1 w) (Nat.le_of_ble_eq_true rfl) tw_1818 d_X12_sighting_85 rfl (wr_1_76 w) ?_
              refine aw_iload_n (i := 1) rfl d_X12_sighting_88 1 rfl ?_
              obtain ⟨b13, k⟩ := k
              refine aw_iald (ws_259 w) b13 d_X12_sighting_89 ?_
              exact aw_iret rfl d_X12_sighting_90 ⟨Nat.le_refl _, Nat.le_refl _⟩ ⟨_, rfl, k⟩
            · have k := k.2
              by_cases e14 : x2 = 5
              · refine aw_tableIn (off := 74) (tgt := 91) d_X12_sighting_17 (by rw [e14]; decide) (by rw [e14]; decide) (by rw [e14]; decide) rfl ?_
                have k := k.1 e14
                refine aw_aload_n (i := 0) rfl d_X12_sighting_91 0 rfl ?_
                refine aw_getr (k0 := 77) kc_12 (ws_1 w) (Nat.le_of_ble_eq_true rfl) tw_1819 d_X12_sighting_92 rfl (wr_1_77 w) ?_
                refine aw_iload_n (i := 1) rfl d_X12_sighting_95 1 rfl ?_
                obtain ⟨b15, k⟩ := k
                refine aw_iald (ws_260 w) b15 d_X12_sighting_96 ?_
                exact aw_iret rfl d_X12_sighting_97 ⟨Nat.le_refl _, Nat.le_refl _⟩ ⟨_, rfl, k⟩
              · have k := k.2
                have k := k ⟨e4, e6, e8, e10, e12, e14⟩
                have n16 := sw_ne (0) (by decide) e4
                have n17 := sw_ne (1) (by decide) e6
                have n18 := sw_ne (2) (by decide) e8
                have n19 := sw_ne (3) (by decide) e10
                have n20 := sw_ne (4) (by decide) e12
                have n21 := sw_ne (5) (by decide) e14
                refine aw_tableOut (tgt := 98) d_X12_sighting_17 (by omega) rfl ?_
                refine aw_iconst (v := (-1)) d_X12_sighting_98 ic_m1 ?_
                exact aw_iret rfl d_X12_sighting_99 ⟨Nat.le_refl _, Nat.le_refl _⟩ ⟨_, rfl, k⟩
  · have k := k.2 c3
    refine aw_iconst (v := (-1)) d_X12_sighting_14 ic_m1 ?_
    exact aw_iret rfl d_X12_sighting_15 ⟨Nat.le_refl _, Nat.le_refl _⟩ ⟨_, rfl, k⟩
theorem t_X12_open (d : Nat) (h : Hp_) (w : Wf h) (x1 : Int32) (K : Int32 → Hp_ → Prop) (k : (¬ (0 ≤ x1 ∧ x1 ≤ 9) → K (-1) h) ∧ ((0 ≤ x1 ∧ x1 ≤ 9) → (30 ≤ (h_i h 1 96) → K (-1) h) ∧ (¬ 30 ≤ (h_i h 1 96) → Ci (m_X12_opened (d + 0) 0 0) [.ref 1, .int x1] h (fun r7 h5 => Wf h5 ∧ (K r7 h5))))) : Ci (m_X12_open (d + 1) 0 0) [.ref 1, .int x1] h K := by
  refine Ct.of (fun _ _ _ => trivial) rfl (Nat.le_of_ble_eq_true rfl) ?_
  show AW (m_X12_open (d + 1) 0 0) 0 0 0 [(0, .ref 1), (1, .int x1)] [] h (kI K)
  refine aw_iload_n (i := 1) rfl d_X12_open_0 1 rfl ?_
  refine aw_iconst (v := 0) d_X12_open_1 ic_0 ?_
  refine aw_bipush (v := 9) d_X12_open_2 ib_9 ?_
  refine aw_Si [.int x1, .int 0, .int 9] [] d_X12_open_4 (cS_X12_in (d + 0) 0 0) tw_2147 rfl (rr0 (Nat.le_of_ble_eq_true rfl) (Nat.le_of_ble_eq_true rfl)) (Nat.le_of_ble_eq_true rfl) xs0 (s_X12_in _ _ x1 0 9) (fun _ _ kk => ?_)
  obtain ⟨e1, e2⟩ := kk
  rw [e1, e2]
  refine aw_ifb_eq (tgt := 27) d_X12_open_7 rfl (fun c3 => ?_) (fun c3 => ?_)
  · have k := k.1 c3
    refine aw_iconst (v := (-1)) d_X12_open_27 ic_m1 ?_
    exact aw_iret rfl d_X12_open_28 ⟨Nat.le_refl _, Nat.le_refl _⟩ ⟨_, rfl, k⟩
  · have k := k.2 c3
    refine aw_aload_n (i := 0) rfl d_X12_open_10 0 rfl ?_
    refine aw_geti (k0 := 96) kc_12 (ws_1 w) (Nat.le_of_ble_eq_true rfl) tw_1838 d_X12_open_11 rfl ?_
    refine aw_bipush (v := 30) d_X12_open_14 ib_30 ?_
    refine aw_icmp_ge (tgt := 27) d_X12_open_16 rfl (fun c4 => ?_) (fun c4 => ?_)
    · have k := k.1 c4
      refine aw_iconst (v := (-1)) d_X12_open_27 ic_m1 ?_
      exact aw_iret rfl d_X12_open_28 ⟨Nat.le_refl _, Nat.le_refl _⟩ ⟨_, rfl, k⟩
    · have k := k.2 c4
      refine aw_aload_n (i := 0) rfl d_X12_open_19 0 rfl ?_
      refine aw_iload_n (i := 1) rfl d_X12_open_20 1 rfl ?_
      refine aw_Vi 1 [.int x1] [] d_X12_open_21 (cV_X12_opened (d + 0) 0 0) kc_12 (ws_1 w) tw_2450 rfl (rr0 (Nat.le_of_ble_eq_true rfl) (Nat.le_of_ble_eq_true rfl)) (Nat.le_of_ble_eq_true rfl) xs0 k (fun r7 h5 kk => ?_)
      obtain ⟨w6, k⟩ := kk
      refine aw_goto (tgt := 28) d_X12_open_24 rfl ?_
      exact aw_iret rfl d_X12_open_28 ⟨Nat.le_refl _, Nat.le_refl _⟩ ⟨_, rfl, k⟩
theorem t_X12_need (d : Nat) (h : Hp_) (w : Wf h) (x1 : Int32) (x2 : Int32) (K : Int32 → Hp_ → Prop) (k : (¬ (0 ≤ x1 ∧ x1 ≤ 9) → K 0 h) ∧ ((0 ≤ x1 ∧ x1 ≤ 9) → ((0 ≤ x2 ∧ x2 ≤ 255) → vp_in x1 10 ∧ (K 1 (h_im h 264 x1.toNatClampNeg x2))) ∧ (¬ (0 ≤ x2 ∧ x2 ≤ 255) → K 0 h))) : Ci (m_X12_need (d + 1) 0 0) [.ref 1, .int x1, .int x2] h K := by
  refine Ct.of (fun _ _ _ => trivial) rfl (Nat.le_of_ble_eq_true rfl) ?_
  show AW (m_X12_need (d + 1) 0 0) 0 0 0 [(0, .ref 1), (1, .int x1), (2, .int x2)] [] h (kI K)
  refine aw_iload_n (i := 1) rfl d_X12_need_0 1 rfl ?_
  refine aw_iconst (v := 0) d_X12_need_1 ic_0 ?_
  refine aw_bipush (v := 9) d_X12_need_2 ib_9 ?_
  refine aw_Si [.int x1, .int 0, .int 9] [] d_X12_need_4 (cS_X12_in (d + 0) 0 0) tw_2147 rfl (rr0 (Nat.le_of_ble_eq_true rfl) (Nat.le_of_ble_eq_true rfl)) (Nat.le_of_ble_eq_true rfl) xs0 (s_X12_in _ _ x1 0 9) (fun _ _ kk => ?_)
  obtain ⟨e1, e2⟩ := kk
  rw [e1, e2]
  refine aw_ifb_eq (tgt := 21) d_X12_need_7 rfl (fun c3 => ?_) (fun c3 => ?_)
  · have k := k.1 c3
    refine aw_iconst (v := 0) d_X12_need_21 ic_0 ?_
    exact aw_zret rfl rfl d_X12_need_22 ⟨Nat.le_refl _, Nat.le_refl _⟩ ⟨_, rfl, k⟩
  · have k := k.2 c3
    refine aw_iload_n (i := 2) rfl d_X12_need_10 2 rfl ?_
    refine aw_iconst (v := 0) d_X12_need_11 ic_0 ?_
    refine aw_sipush (v := 255) d_X12_need_12 is_255 ?_
    refine aw_Si [.int x2, .int 0, .int 255] [] d_X12_need_15 (cS_X12_in (d + 0) 0 0) tw_2147 rfl (rr0 (Nat.le_of_ble_eq_true rfl) (Nat.le_of_ble_eq_true rfl)) (Nat.le_of_ble_eq_true rfl) xs0 (s_X12_in _ _ x2 0 255) (fun _ _ kk => ?_)
    obtain ⟨e4, e5⟩ := kk
    rw [e4, e5]
    refine aw_ifb_ne (tgt := 23) d_X12_need_18 rfl (fun c6 => ?_) (fun c6 => ?_)
    · have k := k.1 c6
      refine aw_aload_n (i := 0) rfl d_X12_need_23 0 rfl ?_
      refine aw_getr (k0 := 83) kc_12 (ws_1 w) (Nat.le_of_ble_eq_true rfl) tw_1825 d_X12_need_24 rfl (wr_1_83 w) ?_
      refine aw_iload_n (i := 1) rfl d_X12_need_27 1 rfl ?_
      refine aw_iload_n (i := 2) rfl d_X12_need_28 2 rfl ?_
      obtain ⟨b7, k⟩ := k
      refine aw_iast (ws_264 w) b7 d_X12_need_29 ?_
      refine aw_iconst (v := 1) d_X12_need_30 ic_1 ?_
      exact aw_zret rfl rfl d_X12_need_31 ⟨Nat.le_refl _, Nat.le_refl _⟩ ⟨_, rfl, k⟩
    · have k := k.2 c6
      refine aw_iconst (v := 0) d_X12_need_21 ic_0 ?_
      exact aw_zret rfl rfl d_X12_need_22 ⟨Nat.le_refl _, Nat.le_refl _⟩ ⟨_, rfl, k⟩
theorem t_X12_want (d : Nat) (h : Hp_) (w : Wf h) (x1 : Int32) (x2 : Int32) (K : Int32 → Hp_ → Prop) (k : (¬ (0 ≤ x1 ∧ x1 ≤ 7) → K 0 h) ∧ ((0 ≤ x1 ∧ x1 ≤ 7) → ((1 ≤ x2 ∧ x2 ≤ 3) → vp_in x1 8 ∧ (K 1 (h_im h 265 x1.toNatClampNeg x2))) ∧ (¬ (1 ≤ x2 ∧ x2 ≤ 3) → K 0 h))) : Ci (m_X12_want (d + 1) 0 0) [.ref 1, .int x1, .int x2] h K := by
  refine Ct.of (fun _ _ _ => trivial) rfl (Nat.le_of_ble_eq_true rfl) ?_
  show AW (m_X12_want (d + 1) 0 0) 0 0 0 [(0, .ref 1), (1, .int x1), (2, .int x2)] [] h (kI K)
  refine aw_iload_n (i := 1) rfl d_X12_want_0 1 rfl ?_
  refine aw_iconst (v := 0) d_X12_want_1 ic_0 ?_
  refine aw_bipush (v := 7) d_X12_want_2 ib_7 ?_
  refine aw_Si [.int x1, .int 0, .int 7] [] d_X12_want_4 (cS_X12_in (d + 0) 0 0) tw_2147 rfl (rr0 (Nat.le_of_ble_eq_true rfl) (Nat.le_of_ble_eq_true rfl)) (Nat.le_of_ble_eq_true rfl) xs0 (s_X12_in _ _ x1 0 7) (fun _ _ kk => ?_)
  obtain ⟨e1, e2⟩ := kk
  rw [e1, e2]
  refine aw_ifb_eq (tgt := 19) d_X12_want_7 rfl (fun c3 => ?_) (fun c3 => ?_)
  · have k := k.1 c3
    refine aw_iconst (v := 0) d_X12_want_19 ic_0 ?_
    exact aw_zret rfl rfl d_X12_want_20 ⟨Nat.le_refl _, Nat.le_refl _⟩ ⟨_, rfl, k⟩
  · have k := k.2 c3
    refine aw_iload_n (i := 2) rfl d_X12_want_10 2 rfl ?_
    refine aw_iconst (v := 1) d_X12_want_11 ic_1 ?_
    refine aw_iconst (v := 3) d_X12_want_12 ic_3 ?_
    refine aw_Si [.int x2, .int 1, .int 3] [] d_X12_want_13 (cS_X12_in (d + 0) 0 0) tw_2147 rfl (rr0 (Nat.le_of_ble_eq_true rfl) (Nat.le_of_ble_eq_true rfl)) (Nat.le_of_ble_eq_true rfl) xs0 (s_X12_in _ _ x2 1 3) (fun _ _ kk => ?_)
    obtain ⟨e4, e5⟩ := kk
    rw [e4, e5]
    refine aw_ifb_ne (tgt := 21) d_X12_want_16 rfl (fun c6 => ?_) (fun c6 => ?_)
    · have k := k.1 c6
      refine aw_aload_n (i := 0) rfl d_X12_want_21 0 rfl ?_
      refine aw_getr (k0 := 84) kc_12 (ws_1 w) (Nat.le_of_ble_eq_true rfl) tw_1826 d_X12_want_22 rfl (wr_1_84 w) ?_
      refine aw_iload_n (i := 1) rfl d_X12_want_25 1 rfl ?_
      refine aw_iload_n (i := 2) rfl d_X12_want_26 2 rfl ?_
      obtain ⟨b7, k⟩ := k
      refine aw_iast (ws_265 w) b7 d_X12_want_27 ?_
      refine aw_iconst (v := 1) d_X12_want_28 ic_1 ?_
      exact aw_zret rfl rfl d_X12_want_29 ⟨Nat.le_refl _, Nat.le_refl _⟩ ⟨_, rfl, k⟩
    · have k := k.2 c6
      refine aw_iconst (v := 0) d_X12_want_19 ic_0 ?_
      exact aw_zret rfl rfl d_X12_want_20 ⟨Nat.le_refl _, Nat.le_refl _⟩ ⟨_, rfl, k⟩
theorem t_X12_factsThat (d : Nat) (h : Hp_) (x1 : Int32) (x2 : Int32) (x3 : Int32) (K : Int32 → Hp_ → Prop) (k : AW (m_X12_factsThat (d + 1) 0 0) 0 0 6 [(0, .ref 1), (1, .int x1), (2, .int x2), (3, .int x3), (4, .int 0), (5, .int 0)] [] h (kI K)) : Ci (m_X12_factsThat (d + 1) 0 0) [.ref 1, .int x1, .int x2, .int x3] h K := by
  refine Ct.of (fun _ _ _ => trivial) rfl (Nat.le_of_ble_eq_true rfl) ?_
  show AW (m_X12_factsThat (d + 1) 0 0) 0 0 0 [(0, .ref 1), (1, .int x1), (2, .int x2), (3, .int x3)] [] h (kI K)
  refine aw_iconst (v := 0) d_X12_factsThat_0 ic_0 ?_
  refine aw_istore [(0, .ref 1), (1, .int x1), (2, .int x2), (3, .int x3), (4, .int 0)] d_X12_factsThat_1 (Nat.le_of_ble_eq_true rfl) rfl rfl ?_
  refine aw_iconst (v := 0) d_X12_factsThat_3 ic_0 ?_
  refine aw_istore [(0, .ref 1), (1, .int x1), (2, .int x2), (3, .int x3), (4, .int 0), (5, .int 0)] d_X12_factsThat_4 (Nat.le_of_ble_eq_true rfl) rfl rfl ?_
  exact k
theorem t_X12_factsThat_6 (d : Nat) (h : Hp_) (w : Wf h) (x1 : Int32) (x2 : Int32) (x3 : Int32) (x4 : Int32) (x5 : Int32) (K : Int32 → Hp_ → Prop) (k : (8 ≤ x5 → K x4 h) ∧ (¬ 8 ≤ x5 → Ci (m_X12_factOf (d + 0) 0 0) [.ref 1, .int x1, .int x5, .int x3] h (fun r4 h2 => Wf h2 ∧ ((¬ r4 = x2 → AW (m_X12_factsThat (d + 1) 0 0) 0 0 6 [(0, .ref 1), (1, .int x1), (2, .int x2), (3, .int x3), (4, .int (x4 ||| 0)), (5, .int (x5 + 1))] [] h2 (kI K)) ∧ (r4 = x2 → AW (m_X12_factsThat (d + 1) 0 0) 0 0 6 [(0, .ref 1), (1, .int x1), (2, .int x2), (3, .int x3), (4, .int (x4 ||| ((1 : Int32) <<< (x5 &&& 31)))), (5, .int (x5 + 1))] [] h2 (kI K)))))) : AW (m_X12_factsThat (d + 1) 0 0) 0 0 6 [(0, .ref 1), (1, .int x1), (2, .int x2), (3, .int x3), (4, .int x4), (5, .int x5)] [] h (kI K) := by
  refine aw_iload d_X12_factsThat_6 5 rfl ?_
  refine aw_bipush (v := 8) d_X12_factsThat_8 ib_8 ?_
  refine aw_icmp_ge (tgt := 44) d_X12_factsThat_10 rfl (fun c1 => ?_) (fun c1 => ?_)
  · have k := k.1 c1
    refine aw_iload d_X12_factsThat_44 4 rfl ?_
    exact aw_iret rfl d_X12_factsThat_46 ⟨Nat.le_refl _, Nat.le_refl _⟩ ⟨_, rfl, k⟩
  · have k := k.2 c1
    refine aw_iload d_X12_factsThat_13 4 rfl ?_
    refine aw_aload_n (i := 0) rfl d_X12_factsThat_15 0 rfl ?_
    refine aw_iload_n (i := 1) rfl d_X12_factsThat_16 1 rfl ?_
    refine aw_iload d_X12_factsThat_17 5 rfl ?_
    refine aw_iload_n (i := 3) rfl d_X12_factsThat_19 3 rfl ?_
    refine aw_Vi 1 [.int x1, .int x5, .int x3] [.int x4] d_X12_factsThat_20 (cV_X12_factOf (d + 0) 0 0) kc_12 (ws_1 w) tw_2519 rfl (rr0 (Nat.le_of_ble_eq_true rfl) (Nat.le_of_ble_eq_true rfl)) (Nat.le_of_ble_eq_true rfl) xs0 k (fun r4 h2 kk => ?_)
    obtain ⟨w3, k⟩ := kk
    refine aw_iload_n (i := 2) rfl d_X12_factsThat_23 2 rfl ?_
    refine aw_icmp_ne (tgt := 34) d_X12_factsThat_24 rfl (fun c5 => ?_) (fun c5 => ?_)
    · have k := k.1 c5
      refine aw_iconst (v := 0) d_X12_factsThat_34 ic_0 ?_
      refine aw_ior d_X12_factsThat_35 ?_
      refine aw_istore [(0, .ref 1), (1, .int x1), (2, .int x2), (3, .int x3), (4, .int (x4 ||| 0)), (5, .int x5)] d_X12_factsThat_36 (Nat.le_of_ble_eq_true rfl) rfl rfl ?_
      refine aw_iinc (v := (x5 + 1)) [(0, .ref 1), (1, .int x1), (2, .int x2), (3, .int x3), (4, .int (x4 ||| 0)), (5, .int (x5 + 1))] d_X12_factsThat_38 5 rfl rfl (Nat.le_of_ble_eq_true rfl) rfl rfl ?_
      refine aw_goto (tgt := 6) d_X12_factsThat_41 rfl ?_
      exact k
    · have k := k.2 c5
      refine aw_iconst (v := 1) d_X12_factsThat_27 ic_1 ?_
      refine aw_iload d_X12_factsThat_28 5 rfl ?_
      refine aw_ishl d_X12_factsThat_30 ?_
      refine aw_goto (tgt := 35) d_X12_factsThat_31 rfl ?_
      refine aw_ior d_X12_factsThat_35 ?_
      refine aw_istore [(0, .ref 1), (1, .int x1), (2, .int x2), (3, .int x3), (4, .int (x4 ||| ((1 : Int32) <<< (x5 &&& 31)))), (5, .int x5)] d_X12_factsThat_36 (Nat.le_of_ble_eq_true rfl) rfl rfl ?_
      refine aw_iinc (v := (x5 + 1)) [(0, .ref 1), (1, .int x1), (2, .int x2), (3, .int x3), (4, .int (x4 ||| ((1 : Int32) <<< (x5 &&& 31)))), (5, .int (x5 + 1))] d_X12_factsThat_38 5 rfl rfl (Nat.le_of_ble_eq_true rfl) rfl rfl ?_
      refine aw_goto (tgt := 6) d_X12_factsThat_41 rfl ?_
      exact k
theorem t_X12_good (d : Nat) (h : Hp_) (w : Wf h) (x1 : Int32) (x2 : Int32) (K : Int32 → Hp_ → Prop) (k : (¬ (0 ≤ x2 ∧ x2 ≤ 99999) → K (-1) h) ∧ ((0 ≤ x2 ∧ x2 ≤ 99999) → (x1 = 0 → (¬ (h_i h 1 102) = 8 → (x1 = 0 → vp_in (h_i h 1 102) 8 ∧ (K (((h_i h 1 102) + 1) - 1) (h_im (h_im h 279 ((h_i h 1 102) : Int32).toNatClampNeg x2) 1 102 ((h_i h 1 102) + 1)))) ∧ (¬ x1 = 0 → vp_in (h_i h 1 101) 8 ∧ (K (((h_i h 1 101) + 1) - 1) (h_im (h_im h 278 ((h_i h 1 101) : Int32).toNatClampNeg x2) 1 101 ((h_i h 1 101) + 1))))) ∧ ((h_i h 1 102) = 8 → K (-1) h)) ∧ (¬ x1 = 0 → (¬ (h_i h 1 101) = 8 → (x1 = 0 → vp_in (h_i h 1 102) 8 ∧ (K (((h_i h 1 102) + 1) - 1) (h_im (h_im h 279 ((h_i h 1 102) : Int32).toNatClampNeg x2) 1 102 ((h_i h 1 102) + 1)))) ∧ (¬ x1 = 0 → vp_in (h_i h 1 101) 8 ∧ (K (((h_i h 1 101) + 1) - 1) (h_im (h_im h 278 ((h_i h 1 101) : Int32).toNatClampNeg x2) 1 101 ((h_i h 1 101) + 1))))) ∧ ((h_i h 1 101) = 8 → K (-1) h)))) : Ci (m_X12_good (d + 1) 0 0) [.ref 1, .int x1, .int x2] h K := by
  refine Ct.of (fun _ _ _ => trivial) rfl (Nat.le_of_ble_eq_true rfl) ?_
  show AW (m_X12_good (d + 1) 0 0) 0 0 0 [(0, .ref 1), (1, .int x1), (2, .int x2)] [] h (kI K)
  refine aw_iload_n (i := 2) rfl d_X12_good_0 2 rfl ?_
  refine aw_iconst (v := 0) d_X12_good_1 ic_0 ?_
  refine aw_ldcw (v := 99999) d_X12_good_2 tw_2561 ?_
  refine aw_Si [.int x2, .int 0, .int 99999] [] d_X12_good_5 (cS_X12_in (d + 0) 0 0) tw_2147 rfl (rr0 (Nat.le_of_ble_eq_true rfl) (Nat.le_of_ble_eq_true rfl)) (Nat.le_of_ble_eq_true rfl) xs0 (s_X12_in _ _ x2 0 99999) (fun _ _ kk => ?_)
  obtain ⟨e1, e2⟩ := kk
  rw [e1, e2]
  refine aw_ifb_eq (tgt := 31) d_X12_good_8 rfl (fun c3 => ?_) (fun c3 => ?_)
  · have k := k.1 c3
    refine aw_iconst (v := (-1)) d_X12_good_31 ic_m1 ?_
    exact aw_iret rfl d_X12_good_32 ⟨Nat.le_refl _, Nat.le_refl _⟩ ⟨_, rfl, k⟩
  · have k := k.2 c3
    refine aw_iload_n (i := 1) rfl d_X12_good_11 1 rfl ?_
    refine aw_if_eq (tgt := 22) d_X12_good_12 rfl (fun c4 => ?_) (fun c4 => ?_)
    · have k := k.1 c4
      refine aw_aload_n (i := 0) rfl d_X12_good_22 0 rfl ?_
      refine aw_geti (k0 := 102) kc_12 (ws_1 w) (Nat.le_of_ble_eq_true rfl) tw_1844 d_X12_good_23 rfl ?_
      refine aw_bipush (v := 8) d_X12_good_26 ib_8 ?_
      refine aw_icmp_ne (tgt := 33) d_X12_good_28 rfl (fun c5 => ?_) (fun c5 => ?_)
      · have k := k.1 c5
        refine aw_iload_n (i := 1) rfl d_X12_good_33 1 rfl ?_
        refine aw_if_eq (tgt := 64) d_X12_good_34 rfl (fun c6 => ?_) (fun c6 => ?_)
        · have k := k.1 c6
          refine aw_aload_n (i := 0) rfl d_X12_good_64 0 rfl ?_
          refine aw_getr (k0 := 100) kc_12 (ws_1 w) (Nat.le_of_ble_eq_true rfl) tw_1842 d_X12_good_65 rfl (wr_1_100 w) ?_
          refine aw_aload_n (i := 0) rfl d_X12_good_68 0 rfl ?_
          refine aw_geti (k0 := 102) kc_12 (ws_1 w) (Nat.le_of_ble_eq_true rfl) tw_1844 d_X12_good_69 rfl ?_
          refine aw_iload_n (i := 2) rfl d_X12_good_72 2 rfl ?_
          obtain ⟨b7, k⟩ := k
          refine aw_iast (ws_279 w) b7 d_X12_good_73 ?_
          refine aw_aload_n (i := 0) rfl d_X12_good_74 0 rfl ?_
          refine aw_dup d_X12_good_75 rfl ?_
          refine aw_geti (k0 := 102) kc_12 (ws_1 w) (Nat.le_of_ble_eq_true rfl) tw_1844 d_X12_good_76 rfl ?_
          refine aw_vi (v2 := (h_i h 1 102)) (rfl) ?_
          refine aw_iconst (v := 1) d_X12_good_79 ic_1 ?_
          refine aw_iadd d_X12_good_80 ?_
          refine aw_puti (k0 := 102) kc_12 (ws_1 w) (Nat.le_of_ble_eq_true rfl) tw_1844 d_X12_good_81 rfl rfl nf_i ?_
          refine aw_aload_n (i := 0) rfl d_X12_good_84 0 rfl ?_
          refine aw_geti (k0 := 102) kc_12 (ws_1 w) (Nat.le_of_ble_eq_true rfl) tw_1844 d_X12_good_85 rfl ?_
          refine aw_vi (v2 := ((h_i h 1 102) + 1)) (rfl) ?_
          refine aw_iconst (v := 1) d_X12_good_88 ic_1 ?_
          refine aw_isub d_X12_good_89 ?_
          exact aw_iret rfl d_X12_good_90 ⟨Nat.le_refl _, Nat.le_refl _⟩ ⟨_, rfl, k⟩
        · have k := k.2 c6
          refine aw_aload_n (i := 0) rfl d_X12_good_37 0 rfl ?_
          refine aw_getr (k0 := 99) kc_12 (ws_1 w) (Nat.le_of_ble_eq_true rfl) tw_1841 d_X12_good_38 rfl (wr_1_99 w) ?_
          refine aw_aload_n (i := 0) rfl d_X12_good_41 0 rfl ?_
          refine aw_geti (k0 := 101) kc_12 (ws_1 w) (Nat.le_of_ble_eq_true rfl) tw_1843 d_X12_good_42 rfl ?_
          refine aw_iload_n (i := 2) rfl d_X12_good_45 2 rfl ?_
          obtain ⟨b8, k⟩ := k
          refine aw_iast (ws_278 w) b8 d_X12_good_46 ?_
          refine aw_aload_n (i := 0) rfl d_X12_good_47 0 rfl ?_
          refine aw_dup d_X12_good_48 rfl ?_
          refine aw_geti (k0 := 101) kc_12 (ws_1 w) (Nat.le_of_ble_eq_true rfl) tw_1843 d_X12_good_49 rfl ?_
          refine aw_vi (v2 := (h_i h 1 101)) (rfl) ?_
          refine aw_iconst (v := 1) d_X12_good_52 ic_1 ?_
          refine aw_iadd d_X12_good_53 ?_
          refine aw_puti (k0 := 101) kc_12 (ws_1 w) (Nat.le_of_ble_eq_true rfl) tw_1843 d_X12_good_54 rfl rfl nf_i ?_
          refine aw_aload_n (i := 0) rfl d_X12_good_57 0 rfl ?_
          refine aw_geti (k0 := 101) kc_12 (ws_1 w) (Nat.le_of_ble_eq_true rfl) tw_1843 d_X12_good_58 rfl ?_
          refine aw_vi (v2 := ((h_i h 1 101) + 1)) (rfl) ?_
          refine aw_iconst (v := 1) d_X12_good_61 ic_1 ?_
          refine aw_isub d_X12_good_62 ?_
          exact aw_iret rfl d_X12_good_63 ⟨Nat.le_refl _, Nat.le_refl _⟩ ⟨_, rfl, k⟩
      · have k := k.2 c5
        refine aw_iconst (v := (-1)) d_X12_good_31 ic_m1 ?_
        exact aw_iret rfl d_X12_good_32 ⟨Nat.le_refl _, Nat.le_refl _⟩ ⟨_, rfl, k⟩
    · have k := k.2 c4
      refine aw_aload_n (i := 0) rfl d_X12_good_15 0 rfl ?_
      refine aw_geti (k0 := 101) kc_12 (ws_1 w) (Nat.le_of_ble_eq_true rfl) tw_1843 d_X12_good_16 rfl ?_
      refine aw_goto (tgt := 26) d_X12_good_19 rfl ?_
      refine aw_bipush (v := 8) d_X12_good_26 ib_8 ?_
      refine aw_icmp_ne (tgt := 33) d_X12_good_28 rfl (fun c9 => ?_) (fun c9 => ?_)
      · have k := k.1 c9
        refine aw_iload_n (i := 1) rfl d_X12_good_33 1 rfl ?_
        refine aw_if_eq (tgt := 64) d_X12_good_34 rfl (fun c10 => ?_) (fun c10 => ?_)
        · have k := k.1 c10
          refine aw_aload_n (i := 0) rfl d_X12_good_64 0 rfl ?_
          refine aw_getr (k0 := 100) kc_12 (ws_1 w) (Nat.le_of_ble_eq_true rfl) tw_1842 d_X12_good_65 rfl (wr_1_100 w) ?_
          refine aw_aload_n (i := 0) rfl d_X12_good_68 0 rfl ?_
          refine aw_geti (k0 := 102) kc_12 (ws_1 w) (Nat.le_of_ble_eq_true rfl) tw_1844 d_X12_good_69 rfl ?_
          refine aw_iload_n (i := 2) rfl d_X12_good_72 2 rfl ?_
          obtain ⟨b11, k⟩ := k
          refine aw_iast (ws_279 w) b11 d_X12_good_73 ?_
          refine aw_aload_n (i := 0) rfl d_X12_good_74 0 rfl ?_
          refine aw_dup d_X12_good_75 rfl ?_
          refine aw_geti (k0 := 102) kc_12 (ws_1 w) (Nat.le_of_ble_eq_true rfl) tw_1844 d_X12_good_76 rfl ?_
          refine aw_vi (v2 := (h_i h 1 102)) (rfl) ?_
          refine aw_iconst (v := 1) d_X12_good_79 ic_1 ?_
          refine aw_iadd d_X12_good_80 ?_
          refine aw_puti (k0 := 102) kc_12 (ws_1 w) (Nat.le_of_ble_eq_true rfl) tw_1844 d_X12_good_81 rfl rfl nf_i ?_
          refine aw_aload_n (i := 0) rfl d_X12_good_84 0 rfl ?_
          refine aw_geti (k0 := 102) kc_12 (ws_1 w) (Nat.le_of_ble_eq_true rfl) tw_1844 d_X12_good_85 rfl ?_
          refine aw_vi (v2 := ((h_i h 1 102) + 1)) (rfl) ?_
          refine aw_iconst (v := 1) d_X12_good_88 ic_1 ?_
          refine aw_isub d_X12_good_89 ?_
          exact aw_iret rfl d_X12_good_90 ⟨Nat.le_refl _, Nat.le_refl _⟩ ⟨_, rfl, k⟩
        · have k := k.2 c10
          refine aw_aload_n (i := 0) rfl d_X12_good_37 0 rfl ?_
          refine aw_getr (k0 := 99) kc_12 (ws_1 w) (Nat.le_of_ble_eq_true rfl) tw_1841 d_X12_good_38 rfl (wr_1_99 w) ?_
          refine aw_aload_n (i := 0) rfl d_X12_good_41 0 rfl ?_
          refine aw_geti (k0 := 101) kc_12 (ws_1 w) (Nat.le_of_ble_eq_true rfl) tw_1843 d_X12_good_42 rfl ?_
          refine aw_iload_n (i := 2) rfl d_X12_good_45 2 rfl ?_
          obtain ⟨b12, k⟩ := k
          refine aw_iast (ws_278 w) b12 d_X12_good_46 ?_
          refine aw_aload_n (i := 0) rfl d_X12_good_47 0 rfl ?_
          refine aw_dup d_X12_good_48 rfl ?_
          refine aw_geti (k0 := 101) kc_12 (ws_1 w) (Nat.le_of_ble_eq_true rfl) tw_1843 d_X12_good_49 rfl ?_
          refine aw_vi (v2 := (h_i h 1 101)) (rfl) ?_
          refine aw_iconst (v := 1) d_X12_good_52 ic_1 ?_
          refine aw_iadd d_X12_good_53 ?_
          refine aw_puti (k0 := 101) kc_12 (ws_1 w) (Nat.le_of_ble_eq_true rfl) tw_1843 d_X12_good_54 rfl rfl nf_i ?_
          refine aw_aload_n (i := 0) rfl d_X12_good_57 0 rfl ?_
          refine aw_geti (k0 := 101) kc_12 (ws_1 w) (Nat.le_of_ble_eq_true rfl) tw_1843 d_X12_good_58 rfl ?_
          refine aw_vi (v2 := ((h_i h 1 101) + 1)) (rfl) ?_
          refine aw_iconst (v := 1) d_X12_good_61 ic_1 ?_
          refine aw_isub d_X12_good_62 ?_
          exact aw_iret rfl d_X12_good_63 ⟨Nat.le_refl _, Nat.le_refl _⟩ ⟨_, rfl, k⟩
      · have k := k.2 c9
        refine aw_iconst (v := (-1)) d_X12_good_31 ic_m1 ?_
        exact aw_iret rfl d_X12_good_32 ⟨Nat.le_refl _, Nat.le_refl _⟩ ⟨_, rfl, k⟩
