section
theorem t_X12_walkOf (d : Nat) (h : Hp_) (x1 : Int32) (x2 : Int32) (K : Int32 → Hp_ → Prop) (k : AW (m_X12_walkOf (d + 0) 0 0) 0 0 2 [(0, .ref 1), (1, .int x1), (2, .int x2), (3, .int 0)] [] h (kI K)) : Ci (m_X12_walkOf (d + 0) 0 0) [.ref 1, .int x1, .int x2] h K := by
  refine Ct.of (fun _ _ _ => trivial) rfl (Nat.le_of_ble_eq_true rfl) ?_
  show AW (m_X12_walkOf (d + 0) 0 0) 0 0 0 [(0, .ref 1), (1, .int x1), (2, .int x2)] [] h (kI K)
  refine aw_iconst (v := 0) d_X12_walkOf_0 ic_0 ?_
  refine aw_istore_n (i := 3) rfl [(0, .ref 1), (1, .int x1), (2, .int x2), (3, .int 0)] d_X12_walkOf_1 (Nat.le_of_ble_eq_true rfl) rfl rfl ?_
  exact k
theorem t_X12_walkOf_2 (d : Nat) (h : Hp_) (w : Wf h) (x1 : Int32) (x2 : Int32) (x3 : Int32) (K : Int32 → Hp_ → Prop) (k : (16 ≤ x3 → AW (m_X12_walkOf (d + 0) 0 0) 0 0 34 [(0, .ref 1), (2, .int x2), (3, .int 1)] [] h (kI K)) ∧ (¬ 16 ≤ x3 → (¬ x3 = x1 → vp_in x3 16 ∧ (AW (m_X12_walkOf (d + 0) 0 0) 0 0 2 [(0, .ref 1), (1, .int x1), (2, .int x2), (3, .int (x3 + 1))] [] (h_im h 203 x3.toNatClampNeg 100000) (kI K))) ∧ (x3 = x1 → vp_in x3 16 ∧ (AW (m_X12_walkOf (d + 0) 0 0) 0 0 2 [(0, .ref 1), (1, .int x1), (2, .int x2), (3, .int (x3 + 1))] [] (h_im h 203 x3.toNatClampNeg 0) (kI K))))) : AW (m_X12_walkOf (d + 0) 0 0) 0 0 2 [(0, .ref 1), (1, .int x1), (2, .int x2), (3, .int x3)] [] h (kI K) := by
  refine aw_iload_n (i := 3) rfl d_X12_walkOf_2 3 rfl ?_
  refine aw_bipush (v := 16) d_X12_walkOf_3 ib_16 ?_
  refine aw_icmp_ge (tgt := 32) d_X12_walkOf_5 rfl (fun c1 => ?_) (fun c1 => ?_)
  · have k := k.1 c1
    refine aw_iconst (v := 1) d_X12_walkOf_32 ic_1 ?_
    refine aw_istore_n (i := 3) rfl [(0, .ref 1), (1, .int x1), (2, .int x2), (3, .int 1)] d_X12_walkOf_33 (Nat.le_of_ble_eq_true rfl) rfl rfl ?_
    exact aw_lvp [0, 2, 3] [(0, .ref 1), (2, .int x2), (3, .int 1)] rfl k
  · have k := k.2 c1
    refine aw_aload_n (i := 0) rfl d_X12_walkOf_8 0 rfl ?_
    refine aw_getr (k0 := 5) kc_12 (ws_1 w) (Nat.le_of_ble_eq_true rfl) tw_1747 d_X12_walkOf_9 rfl (wr_1_5 w) ?_
    refine aw_iload_n (i := 3) rfl d_X12_walkOf_12 3 rfl ?_
    refine aw_iload_n (i := 3) rfl d_X12_walkOf_13 3 rfl ?_
    refine aw_iload_n (i := 1) rfl d_X12_walkOf_14 1 rfl ?_
    refine aw_icmp_ne (tgt := 22) d_X12_walkOf_15 rfl (fun c2 => ?_) (fun c2 => ?_)
    · have k := k.1 c2
      refine aw_ldcw (v := 100000) d_X12_walkOf_22 tw_2154 ?_
      obtain ⟨b3, k⟩ := k
      refine aw_iast (ws_203 w) b3 d_X12_walkOf_25 ?_
      refine aw_iinc (v := (x3 + 1)) [(0, .ref 1), (1, .int x1), (2, .int x2), (3, .int (x3 + 1))] d_X12_walkOf_26 3 rfl rfl (Nat.le_of_ble_eq_true rfl) rfl rfl ?_
      refine aw_goto (tgt := 2) d_X12_walkOf_29 rfl ?_
      exact k
    · have k := k.2 c2
      refine aw_iconst (v := 0) d_X12_walkOf_18 ic_0 ?_
      refine aw_goto (tgt := 25) d_X12_walkOf_19 rfl ?_
      obtain ⟨b4, k⟩ := k
      refine aw_iast (ws_203 w) b4 d_X12_walkOf_25 ?_
      refine aw_iinc (v := (x3 + 1)) [(0, .ref 1), (1, .int x1), (2, .int x2), (3, .int (x3 + 1))] d_X12_walkOf_26 3 rfl rfl (Nat.le_of_ble_eq_true rfl) rfl rfl ?_
      refine aw_goto (tgt := 2) d_X12_walkOf_29 rfl ?_
      exact k
theorem t_X12_walkOf_34 (d : Nat) (h : Hp_) (w : Wf h) (x2 : Int32) (x3 : Int32) (K : Int32 → Hp_ → Prop) (k : (x3 = 0 → vp_in x2 16 ∧ (((h_i h 203 x2.toNatClampNeg) < 100000 → vp_in x2 16 ∧ (K (h_i h 203 x2.toNatClampNeg) h)) ∧ (¬ (h_i h 203 x2.toNatClampNeg) < 100000 → K (-1) h))) ∧ (¬ x3 = 0 → AW (m_X12_walkOf (d + 0) 0 0) 0 0 43 [(0, .ref 1), (2, .int x2), (3, .int 0), (4, .int 0)] [] h (kI K))) : AW (m_X12_walkOf (d + 0) 0 0) 0 0 34 [(0, .ref 1), (2, .int x2), (3, .int x3)] [] h (kI K) := by
  refine aw_iload_n (i := 3) rfl d_X12_walkOf_34 2 rfl ?_
  refine aw_if_eq (tgt := 177) d_X12_walkOf_35 rfl (fun c5 => ?_) (fun c5 => ?_)
  · have k := k.1 c5
    refine aw_aload_n (i := 0) rfl d_X12_walkOf_177 0 rfl ?_
    refine aw_getr (k0 := 5) kc_12 (ws_1 w) (Nat.le_of_ble_eq_true rfl) tw_1747 d_X12_walkOf_178 rfl (wr_1_5 w) ?_
    refine aw_iload_n (i := 2) rfl d_X12_walkOf_181 1 rfl ?_
    obtain ⟨b6, k⟩ := k
    refine aw_iald (ws_203 w) b6 d_X12_walkOf_182 ?_
    refine aw_ldcw (v := 100000) d_X12_walkOf_183 tw_2154 ?_
    refine aw_icmp_lt (tgt := 193) d_X12_walkOf_186 rfl (fun c7 => ?_) (fun c7 => ?_)
    · have k := k.1 c7
      refine aw_aload_n (i := 0) rfl d_X12_walkOf_193 0 rfl ?_
      refine aw_getr (k0 := 5) kc_12 (ws_1 w) (Nat.le_of_ble_eq_true rfl) tw_1747 d_X12_walkOf_194 rfl (wr_1_5 w) ?_
      refine aw_iload_n (i := 2) rfl d_X12_walkOf_197 1 rfl ?_
      obtain ⟨b8, k⟩ := k
      refine aw_iald (ws_203 w) b8 d_X12_walkOf_198 ?_
      exact aw_iret rfl d_X12_walkOf_199 ⟨Nat.le_refl _, Nat.le_refl _⟩ ⟨_, rfl, k⟩
    · have k := k.2 c7
      refine aw_iconst (v := (-1)) d_X12_walkOf_189 ic_m1 ?_
      refine aw_goto (tgt := 199) d_X12_walkOf_190 rfl ?_
      exact aw_iret rfl d_X12_walkOf_199 ⟨Nat.le_refl _, Nat.le_refl _⟩ ⟨_, rfl, k⟩
  · have k := k.2 c5
    refine aw_iconst (v := 0) d_X12_walkOf_38 ic_0 ?_
    refine aw_istore_n (i := 3) rfl [(0, .ref 1), (2, .int x2), (3, .int 0)] d_X12_walkOf_39 (Nat.le_of_ble_eq_true rfl) rfl rfl ?_
    refine aw_iconst (v := 0) d_X12_walkOf_40 ic_0 ?_
    refine aw_istore [(0, .ref 1), (2, .int x2), (3, .int 0), (4, .int 0)] d_X12_walkOf_41 (Nat.le_of_ble_eq_true rfl) rfl rfl ?_
    exact k
theorem t_X12_walkOf_43 (d : Nat) (h : Hp_) (w : Wf h) (x2 : Int32) (x3 : Int32) (x4 : Int32) (K : Int32 → Hp_ → Prop) (k : ((h_i h 1 6) ≤ x4 → AW (m_X12_walkOf (d + 0) 0 0) 0 0 34 [(0, .ref 1), (2, .int x2), (3, .int x3)] [] h (kI K)) ∧ (¬ (h_i h 1 6) ≤ x4 → vp_in x4 40 ∧ (vp_in x4 40 ∧ (vp_in (h_i h 200 x4.toNatClampNeg) 16 ∧ (vp_in x4 40 ∧ (vp_in (h_i h 201 x4.toNatClampNeg) 16 ∧ (((h_i h 203 ((h_i h 201 x4.toNatClampNeg) : Int32).toNatClampNeg) ≤ ((h_i h 203 ((h_i h 200 x4.toNatClampNeg) : Int32).toNatClampNeg) + (h_i h 202 x4.toNatClampNeg)) → vp_in (h_i h 201 x4.toNatClampNeg) 16 ∧ (vp_in x4 40 ∧ (vp_in (h_i h 200 x4.toNatClampNeg) 16 ∧ (((h_i h 203 ((h_i h 200 x4.toNatClampNeg) : Int32).toNatClampNeg) ≤ ((h_i h 203 ((h_i h 201 x4.toNatClampNeg) : Int32).toNatClampNeg) + (h_i h 202 x4.toNatClampNeg)) → AW (m_X12_walkOf (d + 0) 0 0) 0 0 43 [(0, .ref 1), (2, .int x2), (3, .int x3), (4, .int (x4 + 1))] [] h (kI K)) ∧ (¬ (h_i h 203 ((h_i h 200 x4.toNatClampNeg) : Int32).toNatClampNeg) ≤ ((h_i h 203 ((h_i h 201 x4.toNatClampNeg) : Int32).toNatClampNeg) + (h_i h 202 x4.toNatClampNeg)) → vp_in (h_i h 201 x4.toNatClampNeg) 16 ∧ (vp_in x4 40 ∧ (vp_in (h_i h 200 x4.toNatClampNeg) 16 ∧ (AW (m_X12_walkOf (d + 0) 0 0) 0 0 43 [(0, .ref 1), (2, .int x2), (3, .int 1), (4, .int (x4 + 1))] [] (h_im h 203 ((h_i h 200 x4.toNatClampNeg) : Int32).toNatClampNeg ((h_i h 203 ((h_i h 201 x4.toNatClampNeg) : Int32).toNatClampNeg) + (h_i h 202 x4.toNatClampNeg))) (kI K))))))))) ∧ (¬ (h_i h 203 ((h_i h 201 x4.toNatClampNeg) : Int32).toNatClampNeg) ≤ ((h_i h 203 ((h_i h 200 x4.toNatClampNeg) : Int32).toNatClampNeg) + (h_i h 202 x4.toNatClampNeg)) → vp_in (h_i h 200 x4.toNatClampNeg) 16 ∧ (vp_in x4 40 ∧ (vp_in (h_i h 201 x4.toNatClampNeg) 16 ∧ (vp_in (h_i h 201 x4.toNatClampNeg) 16 ∧ (vp_in x4 40 ∧ (vp_in (h_i h 200 x4.toNatClampNeg) 16 ∧ (((h_i (h_im h 203 ((h_i h 201 x4.toNatClampNeg) : Int32).toNatClampNeg ((h_i h 203 ((h_i h 200 x4.toNatClampNeg) : Int32).toNatClampNeg) + (h_i h 202 x4.toNatClampNeg))) 203 ((h_i h 200 x4.toNatClampNeg) : Int32).toNatClampNeg) ≤ (((h_i h 203 ((h_i h 200 x4.toNatClampNeg) : Int32).toNatClampNeg) + (h_i h 202 x4.toNatClampNeg)) + (h_i h 202 x4.toNatClampNeg)) → AW (m_X12_walkOf (d + 0) 0 0) 0 0 43 [(0, .ref 1), (2, .int x2), (3, .int 1), (4, .int (x4 + 1))] [] (h_im h 203 ((h_i h 201 x4.toNatClampNeg) : Int32).toNatClampNeg ((h_i h 203 ((h_i h 200 x4.toNatClampNeg) : Int32).toNatClampNeg) + (h_i h 202 x4.toNatClampNeg))) (kI K)) ∧ (¬ (h_i (h_im h 203 ((h_i h 201 x4.toNatClampNeg) : Int32).toNatClampNeg ((h_i h 203 ((h_i h 200 x4.toNatClampNeg) : Int32).toNatClampNeg) + (h_i h 202 x4.toNatClampNeg))) 203 ((h_i h 200 x4.toNatClampNeg) : Int32).toNatClampNeg) ≤ (((h_i h 203 ((h_i h 200 x4.toNatClampNeg) : Int32).toNatClampNeg) + (h_i h 202 x4.toNatClampNeg)) + (h_i h 202 x4.toNatClampNeg)) → vp_in (h_i h 201 x4.toNatClampNeg) 16 ∧ (vp_in x4 40 ∧ (vp_in (h_i h 200 x4.toNatClampNeg) 16 ∧ (AW (m_X12_walkOf (d + 0) 0 0) 0 0 43 [(0, .ref 1), (2, .int x2), (3, .int 1), (4, .int (x4 + 1))] [] (h_im (h_im h 203 ((h_i h 201 x4.toNatClampNeg) : Int32).toNatClampNeg ((h_i h 203 ((h_i h 200 x4.toNatClampNeg) : Int32).toNatClampNeg) + (h_i h 202 x4.toNatClampNeg))) 203 ((h_i h 200 x4.toNatClampNeg) : Int32).toNatClampNeg (((h_i h 203 ((h_i h 200 x4.toNatClampNeg) : Int32).toNatClampNeg) + (h_i h 202 x4.toNatClampNeg)) + (h_i h 202 x4.toNatClampNeg))) (kI K))))))))))))))))))) : AW (m_X12_walkOf (d + 0) 0 0) 0 0 43 [(0, .ref 1), (2, .int x2), (3, .int x3), (4, .int x4)] [] h (kI K) := by
  refine aw_iload d_X12_walkOf_43 3 rfl ?_
  refine aw_aload_n (i := 0) rfl d_X12_walkOf_45 0 rfl ?_
  refine aw_geti (k0 := 6) kc_12 (ws_1 w) (Nat.le_of_ble_eq_true rfl) tw_1748 d_X12_walkOf_46 rfl ?_
  refine aw_icmp_ge (tgt := 174) d_X12_walkOf_49 rfl (fun c9 => ?_) (fun c9 => ?_)
  · have k := k.1 c9
    refine aw_goto (tgt := 34) d_X12_walkOf_174 rfl ?_
    exact aw_lvp [0, 1, 2] [(0, .ref 1), (2, .int x2), (3, .int x3)] rfl k
  · have k := k.2 c9
    refine aw_aload_n (i := 0) rfl d_X12_walkOf_52 0 rfl ?_
    refine aw_getr (k0 := 2) kc_12 (ws_1 w) (Nat.le_of_ble_eq_true rfl) tw_1744 d_X12_walkOf_53 rfl (wr_1_2 w) ?_
    refine aw_iload d_X12_walkOf_56 3 rfl ?_
    obtain ⟨b10, k⟩ := k
    refine aw_iald (ws_200 w) b10 d_X12_walkOf_58 ?_
    refine aw_istore [(0, .ref 1), (2, .int x2), (3, .int x3), (4, .int x4), (5, .int (h_i h 200 x4.toNatClampNeg))] d_X12_walkOf_59 (Nat.le_of_ble_eq_true rfl) rfl rfl ?_
    refine aw_aload_n (i := 0) rfl d_X12_walkOf_61 0 rfl ?_
    refine aw_getr (k0 := 3) kc_12 (ws_1 w) (Nat.le_of_ble_eq_true rfl) tw_1745 d_X12_walkOf_62 rfl (wr_1_3 w) ?_
    refine aw_iload d_X12_walkOf_65 3 rfl ?_
    obtain ⟨b11, k⟩ := k
    refine aw_iald (ws_201 w) b11 d_X12_walkOf_67 ?_
    refine aw_istore [(0, .ref 1), (2, .int x2), (3, .int x3), (4, .int x4), (5, .int (h_i h 200 x4.toNatClampNeg)), (6, .int (h_i h 201 x4.toNatClampNeg))] d_X12_walkOf_68 (Nat.le_of_ble_eq_true rfl) rfl rfl ?_
    refine aw_aload_n (i := 0) rfl d_X12_walkOf_70 0 rfl ?_
    refine aw_getr (k0 := 5) kc_12 (ws_1 w) (Nat.le_of_ble_eq_true rfl) tw_1747 d_X12_walkOf_71 rfl (wr_1_5 w) ?_
    refine aw_iload d_X12_walkOf_74 4 rfl ?_
    obtain ⟨b12, k⟩ := k
    refine aw_iald (ws_203 w) b12 d_X12_walkOf_76 ?_
    refine aw_aload_n (i := 0) rfl d_X12_walkOf_77 0 rfl ?_
    refine aw_getr (k0 := 4) kc_12 (ws_1 w) (Nat.le_of_ble_eq_true rfl) tw_1746 d_X12_walkOf_78 rfl (wr_1_4 w) ?_
    refine aw_iload d_X12_walkOf_81 3 rfl ?_
    obtain ⟨b13, k⟩ := k
    refine aw_iald (ws_202 w) b13 d_X12_walkOf_83 ?_
    refine aw_iadd d_X12_walkOf_84 ?_
    refine aw_aload_n (i := 0) rfl d_X12_walkOf_85 0 rfl ?_
    refine aw_getr (k0 := 5) kc_12 (ws_1 w) (Nat.le_of_ble_eq_true rfl) tw_1747 d_X12_walkOf_86 rfl (wr_1_5 w) ?_
    refine aw_iload d_X12_walkOf_89 5 rfl ?_
    obtain ⟨b14, k⟩ := k
    refine aw_iald (ws_203 w) b14 d_X12_walkOf_91 ?_
    refine aw_icmp_ge (tgt := 119) d_X12_walkOf_92 rfl (fun c15 => ?_) (fun c15 => ?_)
    · have k := k.1 c15
      refine aw_aload_n (i := 0) rfl d_X12_walkOf_119 0 rfl ?_
      refine aw_getr (k0 := 5) kc_12 (ws_1 w) (Nat.le_of_ble_eq_true rfl) tw_1747 d_X12_walkOf_120 rfl (wr_1_5 w) ?_
      refine aw_iload d_X12_walkOf_123 5 rfl ?_
      obtain ⟨b16, k⟩ := k
      refine aw_iald (ws_203 w) b16 d_X12_walkOf_125 ?_
      refine aw_aload_n (i := 0) rfl d_X12_walkOf_126 0 rfl ?_
      refine aw_getr (k0 := 4) kc_12 (ws_1 w) (Nat.le_of_ble_eq_true rfl) tw_1746 d_X12_walkOf_127 rfl (wr_1_4 w) ?_
      refine aw_iload d_X12_walkOf_130 3 rfl ?_
      obtain ⟨b17, k⟩ := k
      refine aw_iald (ws_202 w) b17 d_X12_walkOf_132 ?_
      refine aw_iadd d_X12_walkOf_133 ?_
      refine aw_aload_n (i := 0) rfl d_X12_walkOf_134 0 rfl ?_
      refine aw_getr (k0 := 5) kc_12 (ws_1 w) (Nat.le_of_ble_eq_true rfl) tw_1747 d_X12_walkOf_135 rfl (wr_1_5 w) ?_
      refine aw_iload d_X12_walkOf_138 4 rfl ?_
      obtain ⟨b18, k⟩ := k
      refine aw_iald (ws_203 w) b18 d_X12_walkOf_140 ?_
      refine aw_icmp_ge (tgt := 168) d_X12_walkOf_141 rfl (fun c19 => ?_) (fun c19 => ?_)
      · have k := k.1 c19
        refine aw_iinc (v := (x4 + 1)) [(0, .ref 1), (2, .int x2), (3, .int x3), (4, .int (x4 + 1)), (5, .int (h_i h 200 x4.toNatClampNeg)), (6, .int (h_i h 201 x4.toNatClampNeg))] d_X12_walkOf_168 3 rfl rfl (Nat.le_of_ble_eq_true rfl) rfl rfl ?_
        refine aw_goto (tgt := 43) d_X12_walkOf_171 rfl ?_
        exact aw_lvp [0, 1, 2, 3] [(0, .ref 1), (2, .int x2), (3, .int x3), (4, .int (x4 + 1))] rfl k
      · have k := k.2 c19
        refine aw_aload_n (i := 0) rfl d_X12_walkOf_144 0 rfl ?_
        refine aw_getr (k0 := 5) kc_12 (ws_1 w) (Nat.le_of_ble_eq_true rfl) tw_1747 d_X12_walkOf_145 rfl (wr_1_5 w) ?_
        refine aw_iload d_X12_walkOf_148 4 rfl ?_
        refine aw_aload_n (i := 0) rfl d_X12_walkOf_150 0 rfl ?_
        refine aw_getr (k0 := 5) kc_12 (ws_1 w) (Nat.le_of_ble_eq_true rfl) tw_1747 d_X12_walkOf_151 rfl (wr_1_5 w) ?_
        refine aw_iload d_X12_walkOf_154 5 rfl ?_
        obtain ⟨b20, k⟩ := k
        refine aw_iald (ws_203 w) b20 d_X12_walkOf_156 ?_
        refine aw_aload_n (i := 0) rfl d_X12_walkOf_157 0 rfl ?_
        refine aw_getr (k0 := 4) kc_12 (ws_1 w) (Nat.le_of_ble_eq_true rfl) tw_1746 d_X12_walkOf_158 rfl (wr_1_4 w) ?_
        refine aw_iload d_X12_walkOf_161 3 rfl ?_
        obtain ⟨b21, k⟩ := k
        refine aw_iald (ws_202 w) b21 d_X12_walkOf_163 ?_
        refine aw_iadd d_X12_walkOf_164 ?_
        obtain ⟨b22, k⟩ := k
        refine aw_iast (ws_203 w) b22 d_X12_walkOf_165 ?_
        refine aw_iconst (v := 1) d_X12_walkOf_166 ic_1 ?_
        refine aw_istore_n (i := 3) rfl [(0, .ref 1), (2, .int x2), (3, .int 1), (4, .int x4), (5, .int (h_i h 200 x4.toNatClampNeg)), (6, .int (h_i h 201 x4.toNatClampNeg))] d_X12_walkOf_167 (Nat.le_of_ble_eq_true rfl) rfl rfl ?_
        refine aw_iinc (v := (x4 + 1)) [(0, .ref 1), (2, .int x2), (3, .int 1), (4, .int (x4 + 1)), (5, .int (h_i h 200 x4.toNatClampNeg)), (6, .int (h_i h 201 x4.toNatClampNeg))] d_X12_walkOf_168 3 rfl rfl (Nat.le_of_ble_eq_true rfl) rfl rfl ?_
        refine aw_goto (tgt := 43) d_X12_walkOf_171 rfl ?_
        exact aw_lvp [0, 1, 2, 3] [(0, .ref 1), (2, .int x2), (3, .int 1), (4, .int (x4 + 1))] rfl k
    · have k := k.2 c15
      refine aw_aload_n (i := 0) rfl d_X12_walkOf_95 0 rfl ?_
      refine aw_getr (k0 := 5) kc_12 (ws_1 w) (Nat.le_of_ble_eq_true rfl) tw_1747 d_X12_walkOf_96 rfl (wr_1_5 w) ?_
      refine aw_iload d_X12_walkOf_99 5 rfl ?_
      refine aw_aload_n (i := 0) rfl d_X12_walkOf_101 0 rfl ?_
      refine aw_getr (k0 := 5) kc_12 (ws_1 w) (Nat.le_of_ble_eq_true rfl) tw_1747 d_X12_walkOf_102 rfl (wr_1_5 w) ?_
      refine aw_iload d_X12_walkOf_105 4 rfl ?_
      obtain ⟨b23, k⟩ := k
      refine aw_iald (ws_203 w) b23 d_X12_walkOf_107 ?_
      refine aw_aload_n (i := 0) rfl d_X12_walkOf_108 0 rfl ?_
      refine aw_getr (k0 := 4) kc_12 (ws_1 w) (Nat.le_of_ble_eq_true rfl) tw_1746 d_X12_walkOf_109 rfl (wr_1_4 w) ?_
      refine aw_iload d_X12_walkOf_112 3 rfl ?_
      obtain ⟨b24, k⟩ := k
      refine aw_iald (ws_202 w) b24 d_X12_walkOf_114 ?_
      refine aw_iadd d_X12_walkOf_115 ?_
      obtain ⟨b25, k⟩ := k
      refine aw_iast (ws_203 w) b25 d_X12_walkOf_116 ?_
      refine aw_iconst (v := 1) d_X12_walkOf_117 ic_1 ?_
      refine aw_istore_n (i := 3) rfl [(0, .ref 1), (2, .int x2), (3, .int 1), (4, .int x4), (5, .int (h_i h 200 x4.toNatClampNeg)), (6, .int (h_i h 201 x4.toNatClampNeg))] d_X12_walkOf_118 (Nat.le_of_ble_eq_true rfl) rfl rfl ?_
      refine aw_aload_n (i := 0) rfl d_X12_walkOf_119 0 rfl ?_
      refine aw_getr (k0 := 5) kc_12 (ws_1 w) (Nat.le_of_ble_eq_true rfl) tw_1747 d_X12_walkOf_120 rfl (wr_1_5 w) ?_
      refine aw_iload d_X12_walkOf_123 5 rfl ?_
      obtain ⟨b26, k⟩ := k
      refine aw_iald (ws_203 w) b26 d_X12_walkOf_125 ?_
      refine aw_vi (v2 := ((h_i h 203 ((h_i h 200 x4.toNatClampNeg) : Int32).toNatClampNeg) + (h_i h 202 x4.toNatClampNeg))) (hi_s h 203 ((h_i h 201 x4.toNatClampNeg) : Int32).toNatClampNeg ((h_i h 203 ((h_i h 200 x4.toNatClampNeg) : Int32).toNatClampNeg) + (h_i h 202 x4.toNatClampNeg))) ?_
      refine aw_aload_n (i := 0) rfl d_X12_walkOf_126 0 rfl ?_
      refine aw_getr (k0 := 4) kc_12 (ws_1 w) (Nat.le_of_ble_eq_true rfl) tw_1746 d_X12_walkOf_127 rfl (wr_1_4 w) ?_
      refine aw_iload d_X12_walkOf_130 3 rfl ?_
      obtain ⟨b27, k⟩ := k
      refine aw_iald (ws_202 w) b27 d_X12_walkOf_132 ?_
      refine aw_vi (v2 := (h_i h 202 x4.toNatClampNeg)) (rfl) ?_
      refine aw_iadd d_X12_walkOf_133 ?_
      refine aw_aload_n (i := 0) rfl d_X12_walkOf_134 0 rfl ?_
      refine aw_getr (k0 := 5) kc_12 (ws_1 w) (Nat.le_of_ble_eq_true rfl) tw_1747 d_X12_walkOf_135 rfl (wr_1_5 w) ?_
      refine aw_iload d_X12_walkOf_138 4 rfl ?_
      obtain ⟨b28, k⟩ := k
      refine aw_iald (ws_203 w) b28 d_X12_walkOf_140 ?_
      refine aw_icmp_ge (tgt := 168) d_X12_walkOf_141 rfl (fun c29 => ?_) (fun c29 => ?_)
      · have k := k.1 c29
        refine aw_iinc (v := (x4 + 1)) [(0, .ref 1), (2, .int x2), (3, .int 1), (4, .int (x4 + 1)), (5, .int (h_i h 200 x4.toNatClampNeg)), (6, .int (h_i h 201 x4.toNatClampNeg))] d_X12_walkOf_168 3 rfl rfl (Nat.le_of_ble_eq_true rfl) rfl rfl ?_
        refine aw_goto (tgt := 43) d_X12_walkOf_171 rfl ?_
        exact aw_lvp [0, 1, 2, 3] [(0, .ref 1), (2, .int x2), (3, .int 1), (4, .int (x4 + 1))] rfl k
      · have k := k.2 c29
        refine aw_aload_n (i := 0) rfl d_X12_walkOf_144 0 rfl ?_
        refine aw_getr (k0 := 5) kc_12 (ws_1 w) (Nat.le_of_ble_eq_true rfl) tw_1747 d_X12_walkOf_145 rfl (wr_1_5 w) ?_
        refine aw_iload d_X12_walkOf_148 4 rfl ?_
        refine aw_aload_n (i := 0) rfl d_X12_walkOf_150 0 rfl ?_
        refine aw_getr (k0 := 5) kc_12 (ws_1 w) (Nat.le_of_ble_eq_true rfl) tw_1747 d_X12_walkOf_151 rfl (wr_1_5 w) ?_
        refine aw_iload d_X12_walkOf_154 5 rfl ?_
        obtain ⟨b30, k⟩ := k
        refine aw_iald (ws_203 w) b30 d_X12_walkOf_156 ?_
        refine aw_vi (v2 := ((h_i h 203 ((h_i h 200 x4.toNatClampNeg) : Int32).toNatClampNeg) + (h_i h 202 x4.toNatClampNeg))) (hi_s h 203 ((h_i h 201 x4.toNatClampNeg) : Int32).toNatClampNeg ((h_i h 203 ((h_i h 200 x4.toNatClampNeg) : Int32).toNatClampNeg) + (h_i h 202 x4.toNatClampNeg))) ?_
        refine aw_aload_n (i := 0) rfl d_X12_walkOf_157 0 rfl ?_
        refine aw_getr (k0 := 4) kc_12 (ws_1 w) (Nat.le_of_ble_eq_true rfl) tw_1746 d_X12_walkOf_158 rfl (wr_1_4 w) ?_
        refine aw_iload d_X12_walkOf_161 3 rfl ?_
        obtain ⟨b31, k⟩ := k
        refine aw_iald (ws_202 w) b31 d_X12_walkOf_163 ?_
        refine aw_vi (v2 := (h_i h 202 x4.toNatClampNeg)) (rfl) ?_
        refine aw_iadd d_X12_walkOf_164 ?_
        obtain ⟨b32, k⟩ := k
        refine aw_iast (ws_203 w) b32 d_X12_walkOf_165 ?_
        refine aw_iconst (v := 1) d_X12_walkOf_166 ic_1 ?_
        refine aw_istore_n (i := 3) rfl [(0, .ref 1), (2, .int x2), (3, .int 1), (4, .int x4), (5, .int (h_i h 200 x4.toNatClampNeg)), (6, .int (h_i h 201 x4.toNatClampNeg))] d_X12_walkOf_167 (Nat.le_of_ble_eq_true rfl) rfl rfl ?_
        refine aw_iinc (v := (x4 + 1)) [(0, .ref 1), (2, .int x2), (3, .int 1), (4, .int (x4 + 1)), (5, .int (h_i h 200 x4.toNatClampNeg)), (6, .int (h_i h 201 x4.toNatClampNeg))] d_X12_walkOf_168 3 rfl rfl (Nat.le_of_ble_eq_true rfl) rfl rfl ?_
        refine aw_goto (tgt := 43) d_X12_walkOf_171 rfl ?_
        exact aw_lvp [0, 1, 2, 3] [(0, .ref 1), (2, .int x2), (3, .int 1), (4, .int (x4 + 1))] rfl k
theorem t_X12_byteOf (d : Nat) (h : Hp_) (x0 : Int32) (x1 : Int32) (x2 : Int32) (x3 : Int32) (x4 : Int32) (x5 : Int32) (K : Int32 → Hp_ → Prop) (k : (4 ≤ x5 → (8 ≤ x5 → (12 ≤ x5 → (16 ≤ x5 → K ((x4 >>> ((24 - (8 * (x5 - x5 / 4 * 4))) &&& 31)) &&& 255) h) ∧ (¬ 16 ≤ x5 → K ((x3 >>> ((24 - (8 * (x5 - x5 / 4 * 4))) &&& 31)) &&& 255) h)) ∧ (¬ 12 ≤ x5 → K ((x2 >>> ((24 - (8 * (x5 - x5 / 4 * 4))) &&& 31)) &&& 255) h)) ∧ (¬ 8 ≤ x5 → K ((x1 >>> ((24 - (8 * (x5 - x5 / 4 * 4))) &&& 31)) &&& 255) h)) ∧ (¬ 4 ≤ x5 → K ((x0 >>> ((24 - (8 * (x5 - x5 / 4 * 4))) &&& 31)) &&& 255) h)) : Ci (m_X12_byteOf (d + 0) 0 0) [.int x0, .int x1, .int x2, .int x3, .int x4, .int x5] h K := by
  refine Ct.of (fun _ _ _ => trivial) rfl (Nat.le_of_ble_eq_true rfl) ?_
  show AW (m_X12_byteOf (d + 0) 0 0) 0 0 0 [(0, .int x0), (1, .int x1), (2, .int x2), (3, .int x3), (4, .int x4), (5, .int x5)] [] h (kI K)
  refine aw_iload d_X12_byteOf_0 5 rfl ?_
  refine aw_iconst (v := 4) d_X12_byteOf_2 ic_4 ?_
  refine aw_icmp_ge (tgt := 10) d_X12_byteOf_3 rfl (fun c1 => ?_) (fun c1 => ?_)
  · have k := k.1 c1
    refine aw_iload d_X12_byteOf_10 5 rfl ?_
    refine aw_bipush (v := 8) d_X12_byteOf_12 ib_8 ?_
    refine aw_icmp_ge (tgt := 21) d_X12_byteOf_14 rfl (fun c2 => ?_) (fun c2 => ?_)
    · have k := k.1 c2
      refine aw_iload d_X12_byteOf_21 5 rfl ?_
      refine aw_bipush (v := 12) d_X12_byteOf_23 ib_12 ?_
      refine aw_icmp_ge (tgt := 32) d_X12_byteOf_25 rfl (fun c3 => ?_) (fun c3 => ?_)
      · have k := k.1 c3
        refine aw_iload d_X12_byteOf_32 5 rfl ?_
        refine aw_bipush (v := 16) d_X12_byteOf_34 ib_16 ?_
        refine aw_icmp_ge (tgt := 43) d_X12_byteOf_36 rfl (fun c4 => ?_) (fun c4 => ?_)
        · have k := k.1 c4
          refine aw_iload d_X12_byteOf_43 4 rfl ?_
          refine aw_istore [(0, .int x0), (1, .int x1), (2, .int x2), (3, .int x3), (4, .int x4), (5, .int x5), (6, .int x4)] d_X12_byteOf_45 (Nat.le_of_ble_eq_true rfl) rfl rfl ?_
          refine aw_iload d_X12_byteOf_47 6 rfl ?_
          refine aw_bipush (v := 24) d_X12_byteOf_49 ib_24 ?_
          refine aw_bipush (v := 8) d_X12_byteOf_51 ib_8 ?_
          refine aw_iload d_X12_byteOf_53 5 rfl ?_
          refine aw_iconst (v := 4) d_X12_byteOf_55 ic_4 ?_
          refine aw_irem d_X12_byteOf_56 (by decide) ?_
          refine aw_imul d_X12_byteOf_57 ?_
          refine aw_isub d_X12_byteOf_58 ?_
          refine aw_ishr d_X12_byteOf_59 ?_
          refine aw_sipush (v := 255) d_X12_byteOf_60 is_255 ?_
          refine aw_iand d_X12_byteOf_63 ?_
          exact aw_iret rfl d_X12_byteOf_64 ⟨Nat.le_refl _, Nat.le_refl _⟩ ⟨_, rfl, k⟩
        · have k := k.2 c4
          refine aw_iload_n (i := 3) rfl d_X12_byteOf_39 3 rfl ?_
          refine aw_goto (tgt := 45) d_X12_byteOf_40 rfl ?_
          refine aw_istore [(0, .int x0), (1, .int x1), (2, .int x2), (3, .int x3), (4, .int x4), (5, .int x5), (6, .int x3)] d_X12_byteOf_45 (Nat.le_of_ble_eq_true rfl) rfl rfl ?_
          refine aw_iload d_X12_byteOf_47 6 rfl ?_
          refine aw_bipush (v := 24) d_X12_byteOf_49 ib_24 ?_
          refine aw_bipush (v := 8) d_X12_byteOf_51 ib_8 ?_
          refine aw_iload d_X12_byteOf_53 5 rfl ?_
          refine aw_iconst (v := 4) d_X12_byteOf_55 ic_4 ?_
          refine aw_irem d_X12_byteOf_56 (by decide) ?_
          refine aw_imul d_X12_byteOf_57 ?_
          refine aw_isub d_X12_byteOf_58 ?_
          refine aw_ishr d_X12_byteOf_59 ?_
          refine aw_sipush (v := 255) d_X12_byteOf_60 is_255 ?_
          refine aw_iand d_X12_byteOf_63 ?_
          exact aw_iret rfl d_X12_byteOf_64 ⟨Nat.le_refl _, Nat.le_refl _⟩ ⟨_, rfl, k⟩
      · have k := k.2 c3
        refine aw_iload_n (i := 2) rfl d_X12_byteOf_28 2 rfl ?_
        refine aw_goto (tgt := 45) d_X12_byteOf_29 rfl ?_
        refine aw_istore [(0, .int x0), (1, .int x1), (2, .int x2), (3, .int x3), (4, .int x4), (5, .int x5), (6, .int x2)] d_X12_byteOf_45 (Nat.le_of_ble_eq_true rfl) rfl rfl ?_
        refine aw_iload d_X12_byteOf_47 6 rfl ?_
        refine aw_bipush (v := 24) d_X12_byteOf_49 ib_24 ?_
        refine aw_bipush (v := 8) d_X12_byteOf_51 ib_8 ?_
        refine aw_iload d_X12_byteOf_53 5 rfl ?_
        refine aw_iconst (v := 4) d_X12_byteOf_55 ic_4 ?_
        refine aw_irem d_X12_byteOf_56 (by decide) ?_
        refine aw_imul d_X12_byteOf_57 ?_
        refine aw_isub d_X12_byteOf_58 ?_
        refine aw_ishr d_X12_byteOf_59 ?_
        refine aw_sipush (v := 255) d_X12_byteOf_60 is_255 ?_
        refine aw_iand d_X12_byteOf_63 ?_
        exact aw_iret rfl d_X12_byteOf_64 ⟨Nat.le_refl _, Nat.le_refl _⟩ ⟨_, rfl, k⟩
    · have k := k.2 c2
      refine aw_iload_n (i := 1) rfl d_X12_byteOf_17 1 rfl ?_
      refine aw_goto (tgt := 45) d_X12_byteOf_18 rfl ?_
      refine aw_istore [(0, .int x0), (1, .int x1), (2, .int x2), (3, .int x3), (4, .int x4), (5, .int x5), (6, .int x1)] d_X12_byteOf_45 (Nat.le_of_ble_eq_true rfl) rfl rfl ?_
      refine aw_iload d_X12_byteOf_47 6 rfl ?_
      refine aw_bipush (v := 24) d_X12_byteOf_49 ib_24 ?_
      refine aw_bipush (v := 8) d_X12_byteOf_51 ib_8 ?_
      refine aw_iload d_X12_byteOf_53 5 rfl ?_
      refine aw_iconst (v := 4) d_X12_byteOf_55 ic_4 ?_
      refine aw_irem d_X12_byteOf_56 (by decide) ?_
      refine aw_imul d_X12_byteOf_57 ?_
      refine aw_isub d_X12_byteOf_58 ?_
      refine aw_ishr d_X12_byteOf_59 ?_
      refine aw_sipush (v := 255) d_X12_byteOf_60 is_255 ?_
      refine aw_iand d_X12_byteOf_63 ?_
      exact aw_iret rfl d_X12_byteOf_64 ⟨Nat.le_refl _, Nat.le_refl _⟩ ⟨_, rfl, k⟩
  · have k := k.2 c1
    refine aw_iload_n (i := 0) rfl d_X12_byteOf_6 0 rfl ?_
    refine aw_goto (tgt := 45) d_X12_byteOf_7 rfl ?_
    refine aw_istore [(0, .int x0), (1, .int x1), (2, .int x2), (3, .int x3), (4, .int x4), (5, .int x5), (6, .int x0)] d_X12_byteOf_45 (Nat.le_of_ble_eq_true rfl) rfl rfl ?_
    refine aw_iload d_X12_byteOf_47 6 rfl ?_
    refine aw_bipush (v := 24) d_X12_byteOf_49 ib_24 ?_
    refine aw_bipush (v := 8) d_X12_byteOf_51 ib_8 ?_
    refine aw_iload d_X12_byteOf_53 5 rfl ?_
    refine aw_iconst (v := 4) d_X12_byteOf_55 ic_4 ?_
    refine aw_irem d_X12_byteOf_56 (by decide) ?_
    refine aw_imul d_X12_byteOf_57 ?_
    refine aw_isub d_X12_byteOf_58 ?_
    refine aw_ishr d_X12_byteOf_59 ?_
    refine aw_sipush (v := 255) d_X12_byteOf_60 is_255 ?_
    refine aw_iand d_X12_byteOf_63 ?_
    exact aw_iret rfl d_X12_byteOf_64 ⟨Nat.le_refl _, Nat.le_refl _⟩ ⟨_, rfl, k⟩
theorem t_X12_feed (d : Nat) (h : Hp_) (x1 : Int32) (x2 : Int32) (x3 : Int32) (x4 : Int32) (x5 : Int32) (K : Int32 → Hp_ → Prop) (k : AW (m_X12_feed (d + 1) 0 0) 0 0 6 [(0, .ref 1), (1, .int x1), (2, .int x2), (3, .int x3), (4, .int x4), (5, .int x5), (6, .int 0), (7, .int 0)] [] h (kI K)) : Ci (m_X12_feed (d + 1) 0 0) [.ref 1, .int x1, .int x2, .int x3, .int x4, .int x5] h K := by
  refine Ct.of (fun _ _ _ => trivial) rfl (Nat.le_of_ble_eq_true rfl) ?_
  show AW (m_X12_feed (d + 1) 0 0) 0 0 0 [(0, .ref 1), (1, .int x1), (2, .int x2), (3, .int x3), (4, .int x4), (5, .int x5)] [] h (kI K)
  refine aw_iconst (v := 0) d_X12_feed_0 ic_0 ?_
  refine aw_istore [(0, .ref 1), (1, .int x1), (2, .int x2), (3, .int x3), (4, .int x4), (5, .int x5), (6, .int 0)] d_X12_feed_1 (Nat.le_of_ble_eq_true rfl) rfl rfl ?_
  refine aw_iconst (v := 0) d_X12_feed_3 ic_0 ?_
  refine aw_istore [(0, .ref 1), (1, .int x1), (2, .int x2), (3, .int x3), (4, .int x4), (5, .int x5), (6, .int 0), (7, .int 0)] d_X12_feed_4 (Nat.le_of_ble_eq_true rfl) rfl rfl ?_
  exact k
theorem t_X12_feed_6 (d : Nat) (h : Hp_) (w : Wf h) (x1 : Int32) (x2 : Int32) (x3 : Int32) (x4 : Int32) (x5 : Int32) (x6 : Int32) (x7 : Int32) (K : Int32 → Hp_ → Prop) (k : (20 ≤ x7 → (((h_i h 1 32) + x6) ≤ 160 → AW (m_X12_feed (d + 1) 0 0) 0 0 62 [(0, .ref 1), (1, .int x1), (2, .int x2), (3, .int x3), (4, .int x4), (5, .int x5), (7, .int 0)] [] h (kI K)) ∧ (¬ ((h_i h 1 32) + x6) ≤ 160 → K (-1) h)) ∧ (¬ 20 ≤ x7 → Ci (m_X12_byteOf (d + 0) 0 0) [.int x1, .int x2, .int x3, .int x4, .int x5, .int x7] h (fun r5 h3 => Wf h3 ∧ ((r5 = 0 → AW (m_X12_feed (d + 1) 0 0) 0 0 6 [(0, .ref 1), (1, .int x1), (2, .int x2), (3, .int x3), (4, .int x4), (5, .int x5), (6, .int (x6 + 0)), (7, .int (x7 + 1))] [] h3 (kI K)) ∧ (¬ r5 = 0 → AW (m_X12_feed (d + 1) 0 0) 0 0 6 [(0, .ref 1), (1, .int x1), (2, .int x2), (3, .int x3), (4, .int x4), (5, .int x5), (6, .int (x6 + 1)), (7, .int (x7 + 1))] [] h3 (kI K)))))) : AW (m_X12_feed (d + 1) 0 0) 0 0 6 [(0, .ref 1), (1, .int x1), (2, .int x2), (3, .int x3), (4, .int x4), (5, .int x5), (6, .int x6), (7, .int x7)] [] h (kI K) := by
  refine aw_iload d_X12_feed_6 7 rfl ?_
  refine aw_bipush (v := 20) d_X12_feed_8 ib_20 ?_
  refine aw_icmp_ge (tgt := 44) d_X12_feed_10 rfl (fun c1 => ?_) (fun c1 => ?_)
  · have k := k.1 c1
    refine aw_aload_n (i := 0) rfl d_X12_feed_44 0 rfl ?_
    refine aw_geti (k0 := 32) kc_12 (ws_1 w) (Nat.le_of_ble_eq_true rfl) tw_1774 d_X12_feed_45 rfl ?_
    refine aw_iload d_X12_feed_48 6 rfl ?_
    refine aw_iadd d_X12_feed_50 ?_
    refine aw_sipush (v := 160) d_X12_feed_51 is_160 ?_
    refine aw_icmp_le (tgt := 59) d_X12_feed_54 rfl (fun c2 => ?_) (fun c2 => ?_)
    · have k := k.1 c2
      refine aw_iconst (v := 0) d_X12_feed_59 ic_0 ?_
      refine aw_istore [(0, .ref 1), (1, .int x1), (2, .int x2), (3, .int x3), (4, .int x4), (5, .int x5), (6, .int x6), (7, .int 0)] d_X12_feed_60 (Nat.le_of_ble_eq_true rfl) rfl rfl ?_
      exact aw_lvp [0, 1, 2, 3, 4, 5, 7] [(0, .ref 1), (1, .int x1), (2, .int x2), (3, .int x3), (4, .int x4), (5, .int x5), (7, .int 0)] rfl k
    · have k := k.2 c2
      refine aw_iconst (v := (-1)) d_X12_feed_57 ic_m1 ?_
      exact aw_iret rfl d_X12_feed_58 ⟨Nat.le_refl _, Nat.le_refl _⟩ ⟨_, rfl, k⟩
  · have k := k.2 c1
    refine aw_iload d_X12_feed_13 6 rfl ?_
    refine aw_iload_n (i := 1) rfl d_X12_feed_15 1 rfl ?_
    refine aw_iload_n (i := 2) rfl d_X12_feed_16 2 rfl ?_
    refine aw_iload_n (i := 3) rfl d_X12_feed_17 3 rfl ?_
    refine aw_iload d_X12_feed_18 4 rfl ?_
    refine aw_iload d_X12_feed_20 5 rfl ?_
    refine aw_iload d_X12_feed_22 7 rfl ?_
    refine aw_Si [.int x1, .int x2, .int x3, .int x4, .int x5, .int x7] [.int x6] d_X12_feed_24 (cS_X12_byteOf (d + 0) 0 0) tw_2183 rfl (rr0 (Nat.le_of_ble_eq_true rfl) (Nat.le_of_ble_eq_true rfl)) (Nat.le_of_ble_eq_true rfl) xs0 k (fun r5 h3 kk => ?_)
    obtain ⟨w4, k⟩ := kk
    refine aw_if_eq (tgt := 34) d_X12_feed_27 rfl (fun c6 => ?_) (fun c6 => ?_)
    · have k := k.1 c6
      refine aw_iconst (v := 0) d_X12_feed_34 ic_0 ?_
      refine aw_iadd d_X12_feed_35 ?_
      refine aw_istore [(0, .ref 1), (1, .int x1), (2, .int x2), (3, .int x3), (4, .int x4), (5, .int x5), (6, .int (x6 + 0)), (7, .int x7)] d_X12_feed_36 (Nat.le_of_ble_eq_true rfl) rfl rfl ?_
      refine aw_iinc (v := (x7 + 1)) [(0, .ref 1), (1, .int x1), (2, .int x2), (3, .int x3), (4, .int x4), (5, .int x5), (6, .int (x6 + 0)), (7, .int (x7 + 1))] d_X12_feed_38 7 rfl rfl (Nat.le_of_ble_eq_true rfl) rfl rfl ?_
      refine aw_goto (tgt := 6) d_X12_feed_41 rfl ?_
      exact k
    · have k := k.2 c6
      refine aw_iconst (v := 1) d_X12_feed_30 ic_1 ?_
      refine aw_goto (tgt := 35) d_X12_feed_31 rfl ?_
      refine aw_iadd d_X12_feed_35 ?_
      refine aw_istore [(0, .ref 1), (1, .int x1), (2, .int x2), (3, .int x3), (4, .int x4), (5, .int x5), (6, .int (x6 + 1)), (7, .int x7)] d_X12_feed_36 (Nat.le_of_ble_eq_true rfl) rfl rfl ?_
      refine aw_iinc (v := (x7 + 1)) [(0, .ref 1), (1, .int x1), (2, .int x2), (3, .int x3), (4, .int x4), (5, .int x5), (6, .int (x6 + 1)), (7, .int (x7 + 1))] d_X12_feed_38 7 rfl rfl (Nat.le_of_ble_eq_true rfl) rfl rfl ?_
      refine aw_goto (tgt := 6) d_X12_feed_41 rfl ?_
      exact k
theorem t_X12_feed_62 (d : Nat) (h : Hp_) (w : Wf h) (x1 : Int32) (x2 : Int32) (x3 : Int32) (x4 : Int32) (x5 : Int32) (x7 : Int32) (K : Int32 → Hp_ → Prop) (k : (20 ≤ x7 → K (h_i h 1 32) h) ∧ (¬ 20 ≤ x7 → Ci (m_X12_byteOf (d + 0) 0 0) [.int x1, .int x2, .int x3, .int x4, .int x5, .int x7] h (fun r10 h8 => Wf h8 ∧ ((r10 = 0 → AW (m_X12_feed (d + 1) 0 0) 0 0 62 [(0, .ref 1), (1, .int x1), (2, .int x2), (3, .int x3), (4, .int x4), (5, .int x5), (7, .int (x7 + 1))] [] h8 (kI K)) ∧ (¬ r10 = 0 → vp_in (h_i h8 1 32) 160 ∧ (AW (m_X12_feed (d + 1) 0 0) 0 0 62 [(0, .ref 1), (1, .int x1), (2, .int x2), (3, .int x3), (4, .int x4), (5, .int x5), (7, .int (x7 + 1))] [] (h_im (h_im h8 225 ((h_i h8 1 32) : Int32).toNatClampNeg r10) 1 32 ((h_i h8 1 32) + 1)) (kI K))))))) : AW (m_X12_feed (d + 1) 0 0) 0 0 62 [(0, .ref 1), (1, .int x1), (2, .int x2), (3, .int x3), (4, .int x4), (5, .int x5), (7, .int x7)] [] h (kI K) := by
  refine aw_iload d_X12_feed_62 6 rfl ?_
  refine aw_bipush (v := 20) d_X12_feed_64 ib_20 ?_
  refine aw_icmp_ge (tgt := 115) d_X12_feed_66 rfl (fun c7 => ?_) (fun c7 => ?_)
  · have k := k.1 c7
    refine aw_aload_n (i := 0) rfl d_X12_feed_115 0 rfl ?_
    refine aw_geti (k0 := 32) kc_12 (ws_1 w) (Nat.le_of_ble_eq_true rfl) tw_1774 d_X12_feed_116 rfl ?_
    exact aw_iret rfl d_X12_feed_119 ⟨Nat.le_refl _, Nat.le_refl _⟩ ⟨_, rfl, k⟩
  · have k := k.2 c7
    refine aw_iload_n (i := 1) rfl d_X12_feed_69 1 rfl ?_
    refine aw_iload_n (i := 2) rfl d_X12_feed_70 2 rfl ?_
    refine aw_iload_n (i := 3) rfl d_X12_feed_71 3 rfl ?_
    refine aw_iload d_X12_feed_72 4 rfl ?_
    refine aw_iload d_X12_feed_74 5 rfl ?_
    refine aw_iload d_X12_feed_76 6 rfl ?_
    refine aw_Si [.int x1, .int x2, .int x3, .int x4, .int x5, .int x7] [] d_X12_feed_78 (cS_X12_byteOf (d + 0) 0 0) tw_2183 rfl (rr0 (Nat.le_of_ble_eq_true rfl) (Nat.le_of_ble_eq_true rfl)) (Nat.le_of_ble_eq_true rfl) xs0 k (fun r10 h8 kk => ?_)
    obtain ⟨w9, k⟩ := kk
    refine aw_istore [(0, .ref 1), (1, .int x1), (2, .int x2), (3, .int x3), (4, .int x4), (5, .int x5), (7, .int x7), (8, .int r10)] d_X12_feed_81 (Nat.le_of_ble_eq_true rfl) rfl rfl ?_
    refine aw_iload d_X12_feed_83 7 rfl ?_
    refine aw_if_eq (tgt := 109) d_X12_feed_85 rfl (fun c11 => ?_) (fun c11 => ?_)
    · have k := k.1 c11
      refine aw_iinc (v := (x7 + 1)) [(0, .ref 1), (1, .int x1), (2, .int x2), (3, .int x3), (4, .int x4), (5, .int x5), (7, .int (x7 + 1)), (8, .int r10)] d_X12_feed_109 6 rfl rfl (Nat.le_of_ble_eq_true rfl) rfl rfl ?_
      refine aw_goto (tgt := 62) d_X12_feed_112 rfl ?_
      exact aw_lvp [0, 1, 2, 3, 4, 5, 6] [(0, .ref 1), (1, .int x1), (2, .int x2), (3, .int x3), (4, .int x4), (5, .int x5), (7, .int (x7 + 1))] rfl k
    · have k := k.2 c11
      refine aw_aload_n (i := 0) rfl d_X12_feed_88 0 rfl ?_
      refine aw_getr (k0 := 30) kc_12 (ws_1 w9) (Nat.le_of_ble_eq_true rfl) tw_1772 d_X12_feed_89 rfl (wr_1_30 w9) ?_
      refine aw_aload_n (i := 0) rfl d_X12_feed_92 0 rfl ?_
      refine aw_geti (k0 := 32) kc_12 (ws_1 w9) (Nat.le_of_ble_eq_true rfl) tw_1774 d_X12_feed_93 rfl ?_
      refine aw_iload d_X12_feed_96 7 rfl ?_
      obtain ⟨b12, k⟩ := k
      refine aw_iast (ws_225 w9) b12 d_X12_feed_98 ?_
      refine aw_aload_n (i := 0) rfl d_X12_feed_99 0 rfl ?_
      refine aw_dup d_X12_feed_100 rfl ?_
      refine aw_geti (k0 := 32) kc_12 (ws_1 w9) (Nat.le_of_ble_eq_true rfl) tw_1774 d_X12_feed_101 rfl ?_
      refine aw_vi (v2 := (h_i h8 1 32)) (rfl) ?_
      refine aw_iconst (v := 1) d_X12_feed_104 ic_1 ?_
      refine aw_iadd d_X12_feed_105 ?_
      refine aw_puti (k0 := 32) kc_12 (ws_1 w9) (Nat.le_of_ble_eq_true rfl) tw_1774 d_X12_feed_106 rfl rfl nf_i ?_
      refine aw_iinc (v := (x7 + 1)) [(0, .ref 1), (1, .int x1), (2, .int x2), (3, .int x3), (4, .int x4), (5, .int x5), (7, .int (x7 + 1)), (8, .int r10)] d_X12_feed_109 6 rfl rfl (Nat.le_of_ble_eq_true rfl) rfl rfl ?_
      refine aw_goto (tgt := 62) d_X12_feed_112 rfl ?_
      exact aw_lvp [0, 1, 2, 3, 4, 5, 6] [(0, .ref 1), (1, .int x1), (2, .int x2), (3, .int x3), (4, .int x4), (5, .int x5), (7, .int (x7 + 1))] rfl k
end
section
/-! ints as whole numbers: for index bounds -/
theorem ti_le {x y : Int32} : x ≤ y ↔ x.toInt ≤ y.toInt := Int32.le_iff_toInt_le
theorem ti_lt {x y : Int32} : x < y ↔ x.toInt < y.toInt := Int32.lt_iff_toInt_lt
theorem ti_eq {x y : Int32} : x = y ↔ x.toInt = y.toInt := Int32.toInt_inj.symm
theorem ti_add {x y : Int32} (l : -2147483648 ≤ x.toInt + y.toInt) (u : x.toInt + y.toInt < 2147483648) : (x + y).toInt = x.toInt + y.toInt := by
  rw [Int32.toInt_add, Int.bmod_eq_of_le (by omega) (by omega)]
theorem ti_sub {x y : Int32} (l : -2147483648 ≤ x.toInt - y.toInt) (u : x.toInt - y.toInt < 2147483648) : (x - y).toInt = x.toInt - y.toInt := by
  rw [Int32.toInt_sub, Int.bmod_eq_of_le (by omega) (by omega)]
theorem ti_mul {x y : Int32} (l : -2147483648 ≤ x.toInt * y.toInt) (u : x.toInt * y.toInt < 2147483648) : (x * y).toInt = x.toInt * y.toInt := by
  rw [Int32.toInt_mul, Int.bmod_eq_of_le (by omega) (by omega)]
theorem ti_n {i : Int32} : (i.toNatClampNeg : Int) = if 0 ≤ i.toInt then i.toInt else 0 := by
  show ((i.toInt.toNat : Nat) : Int) = _
  split <;> omega
theorem vin_ti {i : Int32} {n : Nat} (l : 0 ≤ i.toInt) (u : i.toInt < n) : vp_in i n := by
  have a : (0 : Int32).toInt = 0 := rfl
  have b : (i.toNatClampNeg : Int) = i.toInt := by rw [ti_n, if_pos l]
  rintro (z | z)
  · have z := ti_lt.mp z
    omega
  · omega
/-- a bound on a field -/
def bd (h : Hp_) (a k : Nat) (lo hi : Int) : Prop := lo ≤ (h_i h a k).toInt ∧ (h_i h a k).toInt ≤ hi
theorem bd_s {h : Hp_} {a k : Nat} {x : Int32} {lo hi : Int} (l : lo ≤ x.toInt) (u : x.toInt ≤ hi) : bd (h_im h a k x) a k lo hi := by
  unfold bd
  rw [h_i_im, if_pos ⟨rfl, rfl⟩]
  exact ⟨l, u⟩
theorem bd_o {h : Hp_} {a k b j : Nat} {x : Int32} {lo hi : Int} (n : ¬ (b = a ∧ j = k)) (c : bd h b j lo hi) : bd (h_im h a k x) b j lo hi := by
  unfold bd
  rw [h_i_im, if_neg n]
  exact c
theorem bd_r {h : Hp_} {a k : Nat} {x : Option Nat} {b j : Nat} {lo hi : Int} (c : bd h b j lo hi) : bd (h_rm h a k x) b j lo hi := by
  unfold bd
  rw [h_i_rm]
  exact c
theorem bd_l {h : Hp_} {a k : Nat} {x : Int64} {b j : Nat} {lo hi : Int} (c : bd h b j lo hi) : bd (h_lm h a k x) b j lo hi := by
  unfold bd
  rw [h_i_lm]
  exact c
theorem pl_i {x : Int32} (h : 0 ≤ x ∧ x < 16) : 0 ≤ x.toInt ∧ x.toInt < 16 := ⟨ti_le.mp h.1, ti_lt.mp h.2⟩
theorem vin_16 {x y : Int32} (hx : 0 ≤ x ∧ x < 16) (hy : 0 ≤ y ∧ y < 16) : vp_in ((x * 16) + y) 256 := by
  have a := pl_i hx
  have b := pl_i hy
  have m : (x * 16).toInt = x.toInt * 16 := ti_mul (y := 16) (show _ ≤ x.toInt * 16 by omega) (show x.toInt * 16 < _ by omega)
  have s : (x * 16 + y).toInt = x.toInt * 16 + y.toInt := by rw [ti_add (by omega) (by omega), m]
  exact vin_ti (by omega) (by omega)
def only (L : List Nat) (h h' : Hp_) : Prop := Wf h' ∧ (∀ b, b ∉ L → h_i h' b = h_i h b) ∧ h_l h' = h_l h ∧ h_r h' = h_r h ∧ h_sh h' = h_sh h
theorem only.rf {L : List Nat} {h : Hp_} (w : Wf h) : only L h h := ⟨w, fun _ _ => rfl, rfl, rfl, rfl⟩
theorem only.im {L : List Nat} {h h' : Hp_} {a k : Nat} {x : Int32} (o : only L h h') (ha : a ∈ L) : only L h (h_im h' a k x) := by
  refine ⟨o.1.im a k x, fun b hb => ?_, ?_, ?_, ?_⟩
  · funext j
    have n : ¬ (b = a ∧ j = k) := fun z => hb (by rw [z.1]; exact ha)
    rw [h_i_im, if_neg n, o.2.1 b hb]
  · rw [h_l_im]; exact o.2.2.1
  · rw [h_r_im]; exact o.2.2.2.1
  · rw [h_sh_im]; exact o.2.2.2.2
theorem only.tr {L : List Nat} {h h' h2 : Hp_} (o : only L h h') (q : only L h' h2) : only L h h2 :=
  ⟨q.1, fun b hb => (q.2.1 b hb).trans (o.2.1 b hb), q.2.2.1.trans o.2.2.1, q.2.2.2.1.trans o.2.2.2.1, q.2.2.2.2.trans o.2.2.2.2⟩
theorem only.more {L M : List Nat} {h h' : Hp_} (o : only L h h') (hs : ∀ b ∈ L, b ∈ M) : only M h h' := ⟨o.1, fun b hb => o.2.1 b (fun z => hb (hs b z)), o.2.2⟩
theorem ti_suc {x : Int32} (u : x.toInt < 2147483647) : (x + 1).toInt = x.toInt + 1 := ti_add (y := 1) (show _ ≤ x.toInt + 1 by have := Int32.le_toInt x; omega) (show x.toInt + 1 < _ by omega)
/-! the reference's walkOf: safe, and it ends -/
def fsn (h : Hp_) : Nat → Nat
  | 0 => 0
  | n + 1 => fsn h n + (h_i h 203 n).toInt.toNat
theorem fsn_le {h : Hp_} {p : Nat} {x : Int32} (l : x.toInt ≤ (h_i h 203 p).toInt) (z : 0 ≤ x.toInt) : ∀ n, fsn (h_im h 203 p x) n ≤ fsn h n ∧ (p < n → fsn (h_im h 203 p x) n + ((h_i h 203 p).toInt - x.toInt).toNat ≤ fsn h n)
  | 0 => ⟨Nat.le_refl _, fun h => absurd h (Nat.not_lt_zero p)⟩
  | n + 1 => by
    obtain ⟨a, b⟩ := fsn_le l z n
    have e : fsn (h_im h 203 p x) (n + 1) = fsn (h_im h 203 p x) n + (h_i (h_im h 203 p x) 203 n).toInt.toNat := rfl
    have e2 : fsn h (n + 1) = fsn h n + (h_i h 203 n).toInt.toNat := rfl
    rw [e, e2, h_i_im]
    by_cases c : n = p
    · subst c
      rw [if_pos ⟨rfl, rfl⟩]
      omega
    · rw [if_neg (fun z => c z.2)]
      refine ⟨by omega, fun hp => ?_⟩
      have := b (by omega)
      omega
/-- paths of the reference in their bounds; far in its -/
def RdI (h : Hp_) : Prop := bd h 1 6 0 40 ∧ (∀ k, k < 40 → bd h 200 k 0 15 ∧ bd h 201 k 0 15 ∧ bd h 202 k 0 60)
def FaI (h : Hp_) : Prop := ∀ p, p < 16 → bd h 203 p 0 100000
theorem RdI.on {h h' : Hp_} (i : RdI h) (o : only [203] h h') : RdI h' := by
  have e1 := o.2.1 1 (by decide)
  have e2 := o.2.1 200 (by decide)
  have e3 := o.2.1 201 (by decide)
  have e4 := o.2.1 202 (by decide)
  unfold RdI bd at *
  rw [e1, e2, e3, e4]
  exact i
theorem FaI.im {h : Hp_} (i : FaI h) {p : Nat} {x : Int32} (l : 0 ≤ x.toInt) (u : x.toInt ≤ 100000) : FaI (h_im h 203 p x) := fun q hq => by
  by_cases c : q = p
  · subst c
    exact bd_s l u
  · exact bd_o (fun z => c z.2) (i q hq)
theorem vin_bd {h : Hp_} {a k : Nat} {hi : Int} {n : Nat} (b : bd h a k 0 hi) (u : hi < n) : vp_in (h_i h a k) n := vin_ti b.1 (by have := b.2; omega)
theorem tn_bd {h : Hp_} {a k : Nat} {hi : Int} {n : Nat} (b : bd h a k 0 hi) (u : hi < n) : (h_i h a k).toNatClampNeg < n := by
  have e := @ti_n (h_i h a k)
  rw [if_pos b.1] at e
  have := b.2
  omega
theorem tn_ti {x : Int32} {n : Nat} (l : 0 ≤ x.toInt) (u : x.toInt < n) : x.toNatClampNeg < n := by
  have e := @ti_n x
  rw [if_pos l] at e
  omega
theorem fa_put {h0 h : Hp_} {N : Nat} (o : only [203] h0 h) (i : RdI h) (f : FaI h) (hN : fsn h 16 ≤ N) {p : Nat} {x : Int32} (hp : p < 16) (l : 0 ≤ x.toInt) (u : x.toInt < (h_i h 203 p).toInt) :
    only [203] h0 (h_im h 203 p x) ∧ RdI (h_im h 203 p x) ∧ FaI (h_im h 203 p x) ∧ fsn (h_im h 203 p x) 16 < N := by
  have b := f p hp
  have b2 := b.2
  have s := (fsn_le (h := h) (p := p) (x := x) (by omega) l 16).2 hp
  exact ⟨o.im (by decide), i.on ((only.rf o.1).im (by decide)), f.im l (by omega), by omega⟩
theorem sf_wo_43 (d : Nat) (h0 : Hp_) (x2 : Int32) (K : Int32 → Hp_ → Prop) (N : Nat)
    (k : ∀ (h : Hp_) (x3 : Int32), only [203] h0 h → RdI h → FaI h → ((x3 = 0 ∧ fsn h 16 ≤ N) ∨ (x3 = 1 ∧ fsn h 16 < N)) → AW (m_X12_walkOf (d + 0) 0 0) 0 0 34 [(0, .ref 1), (2, .int x2), (3, .int x3)] [] h (kI K)) :
    ∀ (r : Nat) (x3 x4 : Int32), 0 ≤ x4.toInt → x4.toInt + r = 40 → ∀ h, only [203] h0 h → RdI h → FaI h → ((x3 = 0 ∧ fsn h 16 ≤ N) ∨ (x3 = 1 ∧ fsn h 16 < N)) → AW (m_X12_walkOf (d + 0) 0 0) 0 0 43 [(0, .ref 1), (2, .int x2), (3, .int x3), (4, .int x4)] [] h (kI K) := by
  intro r
  induction r with
  | zero =>
    intro x3 x4 l e h o i f c
    have b := i.1.2
    exact t_X12_walkOf_43 d h o.1 x2 x3 x4 K ⟨fun _ => k h x3 o i f c, fun z => absurd (ti_le.mpr (by omega)) z⟩
  | succ r ih =>
    intro x3 x4 l e h o i f c
    have hN : fsn h 16 ≤ N := by rcases c with c | c <;> omega
    have s4 := ti_suc (x := x4) (by omega)
    have v4 : vp_in x4 40 := vin_ti l (by omega)
    have n4 : x4.toNatClampNeg < 40 := tn_ti l (by omega)
    have q := i.2 _ n4
    have va := vin_bd (n := 16) q.1 (by decide)
    have vb := vin_bd (n := 16) q.2.1 (by decide)
    have na := tn_bd (n := 16) q.1 (by decide)
    have nb := tn_bd (n := 16) q.2.1 (by decide)
    have ql := q.2.2.1
    have qu := q.2.2.2
    have fa := f _ na
    have fb := f _ nb
    have fa1 := fa.1
    have fa2 := fa.2
    have fb1 := fb.1
    have fb2 := fb.2
    have nx : ∀ (h' : Hp_) (y : Int32), only [203] h0 h' → RdI h' → FaI h' → ((y = 0 ∧ fsn h' 16 ≤ N) ∨ (y = 1 ∧ fsn h' 16 < N)) → AW (m_X12_walkOf (d + 0) 0 0) 0 0 43 [(0, .ref 1), (2, .int x2), (3, .int y), (4, .int (x4 + 1))] [] h' (kI K) := fun h' y o' i' f' c' => ih y (x4 + 1) (by omega) (by omega) h' o' i' f' c'
    refine t_X12_walkOf_43 d h o.1 x2 x3 x4 K ⟨fun _ => k h x3 o i f c, fun _ => ⟨v4, v4, va, v4, vb, fun e1 => ⟨vb, v4, va, fun e2 => nx h x3 o i f c, fun e2 => ⟨vb, v4, va, ?_⟩⟩, fun e1 => ⟨va, v4, vb, vb, v4, va, ?_⟩⟩⟩
    · have s := ti_add (x := h_i h 203 (h_i h 201 x4.toNatClampNeg).toNatClampNeg) (y := h_i h 202 x4.toNatClampNeg) (by omega) (by omega)
      have u := ti_lt.mp (Int32.not_le.mp e2)
      obtain ⟨z1, z2, z3, z4⟩ := fa_put o i f hN na (x := h_i h 203 (h_i h 201 x4.toNatClampNeg).toNatClampNeg + h_i h 202 x4.toNatClampNeg) (by omega) u
      exact nx _ 1 z1 z2 z3 (Or.inr ⟨rfl, z4⟩)
    · have s := ti_add (x := h_i h 203 (h_i h 200 x4.toNatClampNeg).toNatClampNeg) (y := h_i h 202 x4.toNatClampNeg) (by omega) (by omega)
      have u := ti_lt.mp (Int32.not_le.mp e1)
      obtain ⟨z1, z2, z3, z4⟩ := fa_put o i f hN nb (x := h_i h 203 (h_i h 200 x4.toNatClampNeg).toNatClampNeg + h_i h 202 x4.toNatClampNeg) (by omega) u
      have s2 := ti_add (x := h_i h 203 (h_i h 200 x4.toNatClampNeg).toNatClampNeg + h_i h 202 x4.toNatClampNeg) (y := h_i h 202 x4.toNatClampNeg) (by omega) (by omega)
      refine ⟨fun e2 => nx _ 1 z1 z2 z3 (Or.inr ⟨rfl, z4⟩), fun e2 => ⟨vb, v4, va, ?_⟩⟩
      have u2 := ti_lt.mp (Int32.not_le.mp e2)
      obtain ⟨y1, y2, y3, y4⟩ := fa_put z1 z2 z3 (Nat.le_of_lt z4) na (x := h_i h 203 (h_i h 200 x4.toNatClampNeg).toNatClampNeg + h_i h 202 x4.toNatClampNeg + h_i h 202 x4.toNatClampNeg) (by omega) u2
      exact nx _ 1 y1 y2 y3 (Or.inr ⟨rfl, y4⟩)
theorem sf_wo_34 (d : Nat) (h0 : Hp_) (x2 : Int32) (p2 : 0 ≤ x2.toInt ∧ x2.toInt < 16) (K : Int32 → Hp_ → Prop) (k : ∀ h v, only [203] h0 h → v = -1 ∨ (0 ≤ v.toInt ∧ v.toInt < 100000) → K v h) :
    ∀ N : Nat, ∀ (h : Hp_) (x3 : Int32), fsn h 16 < N → x3 = 0 ∨ x3 = 1 → only [203] h0 h → RdI h → FaI h → AW (m_X12_walkOf (d + 0) 0 0) 0 0 34 [(0, .ref 1), (2, .int x2), (3, .int x3)] [] h (kI K) := by
  have fin : ∀ h : Hp_, only [203] h0 h → FaI h → ∀ z : AW (m_X12_walkOf (d + 0) 0 0) 0 0 43 [(0, .ref 1), (2, .int x2), (3, .int 0), (4, .int 0)] [] h (kI K) ∨ True, AW (m_X12_walkOf (d + 0) 0 0) 0 0 34 [(0, .ref 1), (2, .int x2), (3, .int 0)] [] h (kI K) := fun h o f _ => by
    have t : (100000 : Int32).toInt = 100000 := rfl
    have v := vin_ti (n := 16) p2.1 (by omega)
    have b := f _ (tn_ti (n := 16) p2.1 (by omega))
    have b1 := b.1
    exact t_X12_walkOf_34 d h o.1 x2 0 K ⟨fun _ => ⟨v, fun c => ⟨v, k h _ o (Or.inr ⟨b1, by have := ti_lt.mp c; omega⟩)⟩, fun _ => k h _ o (Or.inl rfl)⟩, fun c => absurd rfl c⟩
  intro N
  induction N with
  | zero => intro h x3 c; omega
  | succ N ih =>
    intro h x3 c cx o i f
    rcases cx with rfl | rfl
    · exact fin h o f (Or.inr trivial)
    · refine t_X12_walkOf_34 d h o.1 x2 1 K ⟨fun z => absurd z (by decide), fun _ => ?_⟩
      refine sf_wo_43 d h0 x2 K (fsn h 16) (fun h' y o' i' f' c' => ?_) 40 0 0 (by decide) (by decide) h o i f (Or.inl ⟨rfl, Nat.le_refl _⟩)
      rcases c' with ⟨rfl, c'⟩ | ⟨rfl, c'⟩
      · exact fin h' o' f' (Or.inr trivial)
      · exact ih h' 1 (by omega) (Or.inr rfl) o' i' f'
theorem sf_wo_2 (d : Nat) (h0 : Hp_) (x1 x2 : Int32) (p2 : 0 ≤ x2.toInt ∧ x2.toInt < 16) (K : Int32 → Hp_ → Prop) (k : ∀ h v, only [203] h0 h → v = -1 ∨ (0 ≤ v.toInt ∧ v.toInt < 100000) → K v h) :
    ∀ (r : Nat) (x3 : Int32), 0 ≤ x3.toInt → x3.toInt + r = 16 → ∀ h, only [203] h0 h → RdI h → (∀ p : Nat, (p : Int) < x3.toInt → bd h 203 p 0 100000) → AW (m_X12_walkOf (d + 0) 0 0) 0 0 2 [(0, .ref 1), (1, .int x1), (2, .int x2), (3, .int x3)] [] h (kI K) := by
  have t16 : (16 : Int32).toInt = 16 := rfl
  intro r
  induction r with
  | zero =>
    intro x3 l e h o i f
    exact t_X12_walkOf_2 d h o.1 x1 x2 x3 K ⟨fun _ => sf_wo_34 d h0 x2 p2 K k (fsn h 16 + 1) h 1 (Nat.lt_succ_self _) (Or.inr rfl) o i (fun p hp => f p (by omega)), fun c => absurd (ti_le.mpr (by omega)) c⟩
  | succ r ih =>
    intro x3 l e h o i f
    have s3 := ti_suc (x := x3) (by omega)
    have v : vp_in x3 16 := vin_ti l (by omega)
    have tn : (x3.toNatClampNeg : Int) = x3.toInt := by rw [ti_n, if_pos l]
    have go : ∀ y : Int32, 0 ≤ y.toInt → y.toInt ≤ 100000 → AW (m_X12_walkOf (d + 0) 0 0) 0 0 2 [(0, .ref 1), (1, .int x1), (2, .int x2), (3, .int (x3 + 1))] [] (h_im h 203 x3.toNatClampNeg y) (kI K) := fun y yl yu => by
      refine ih (x3 + 1) (by omega) (by omega) _ (o.im (by decide)) (i.on ((only.rf o.1).im (by decide))) (fun p hp => ?_)
      by_cases c : p = x3.toNatClampNeg
      · subst c
        exact bd_s yl yu
      · exact bd_o (fun z => c z.2) (f p (by omega))
    exact t_X12_walkOf_2 d h o.1 x1 x2 x3 K ⟨fun c => absurd (ti_le.mp c) (by omega), fun _ => ⟨fun _ => ⟨v, go 100000 (by decide) (by decide)⟩, fun _ => ⟨v, go 0 (by decide) (by decide)⟩⟩⟩
/-- the reference's walkOf, to a place: it ends; only far is written -/
theorem sf_X12_walkOf (d : Nat) (h : Hp_) (w : Wf h) (i : RdI h) (x1 x2 : Int32) (p2 : 0 ≤ x2.toInt ∧ x2.toInt < 16) : Ci (m_X12_walkOf (d + 0) 0 0) [.ref 1, .int x1, .int x2] h (fun v h' => only [203] h h' ∧ (v = -1 ∨ (0 ≤ v.toInt ∧ v.toInt < 100000))) :=
  t_X12_walkOf d h x1 x2 _ (sf_wo_2 d h x1 x2 p2 _ (fun _ _ o c => ⟨o, c⟩) 16 0 (by decide) (by decide) h (only.rf w) i (fun p hp => absurd hp (by have : (0 : Int32).toInt = 0 := rfl; omega)))
end
section
/-! the reference's feed is safe -/
def by_ (x0 x1 x2 x3 x4 x5 : Int32) : Int32 := ((if 4 ≤ x5 then (if 8 ≤ x5 then (if 12 ≤ x5 then (if 16 ≤ x5 then x4 else x3) else x2) else x1) else x0) >>> ((24 - (8 * (x5 - x5 / 4 * 4))) &&& 31)) &&& 255
theorem sf_X12_byteOf (d : Nat) (h : Hp_) (x0 x1 x2 x3 x4 x5 : Int32) : Ci (m_X12_byteOf (d + 0) 0 0) [.int x0, .int x1, .int x2, .int x3, .int x4, .int x5] h (fun r h' => r = by_ x0 x1 x2 x3 x4 x5 ∧ h' = h) :=
  t_X12_byteOf d h x0 x1 x2 x3 x4 x5 _ ⟨fun a => ⟨fun b => ⟨fun c => ⟨fun e => ⟨by unfold by_; rw [if_pos a, if_pos b, if_pos c, if_pos e], rfl⟩, fun e => ⟨by unfold by_; rw [if_pos a, if_pos b, if_pos c, if_neg e], rfl⟩⟩, fun c => ⟨by unfold by_; rw [if_pos a, if_pos b, if_neg c], rfl⟩⟩, fun b => ⟨by unfold by_; rw [if_pos a, if_neg b], rfl⟩⟩, fun a => ⟨by unfold by_; rw [if_neg a], rfl⟩⟩
def cnF (x1 x2 x3 x4 x5 : Int32) : Nat → Nat
  | 0 => 0
  | k + 1 => cnF x1 x2 x3 x4 x5 k + (if by_ x1 x2 x3 x4 x5 (Int32.ofNat k) = 0 then 0 else 1)
theorem cnF_mo (x1 x2 x3 x4 x5 : Int32) (k : Nat) : ∀ r, cnF x1 x2 x3 x4 x5 k ≤ cnF x1 x2 x3 x4 x5 (k + r)
  | 0 => Nat.le_refl _
  | r + 1 => Nat.le_trans (cnF_mo x1 x2 x3 x4 x5 k r) (Nat.le_add_right _ _)
theorem cnF_mk (x1 x2 x3 x4 x5 : Int32) : ∀ k, cnF x1 x2 x3 x4 x5 k ≤ k
  | 0 => Nat.le_refl _
  | k + 1 => by
    have a := cnF_mk x1 x2 x3 x4 x5 k
    show cnF x1 x2 x3 x4 x5 k + _ ≤ _
    split <;> omega
theorem of_ti {x : Int32} {k : Nat} (e : x.toInt = k) (u : k < 2147483648) : x = Int32.ofNat k := ti_eq.mpr (by rw [e, Int32.toInt_ofNat_of_lt (by omega)])
def apM (h h' : Hp_) : Prop := only [225, 1] h h' ∧ bd h' 1 32 0 160 ∧ (∀ j, j ≠ 32 → h_i h' 1 j = h_i h 1 j)
theorem sf_feed_62 (d : Nat) (h0 : Hp_) (x1 x2 x3 x4 x5 : Int32) (s0 : Nat) (hs : s0 + cnF x1 x2 x3 x4 x5 20 ≤ 160) : ∀ (r k : Nat) (x7 : Int32), x7.toInt = k → k + r = 20 → ∀ h, only [225, 1] h0 h → (h_i h 1 32).toInt = s0 + cnF x1 x2 x3 x4 x5 k → (∀ j, j ≠ 32 → h_i h 1 j = h_i h0 1 j) →
    AW (m_X12_feed (d + 1) 0 0) 0 0 62 [(0, .ref 1), (1, .int x1), (2, .int x2), (3, .int x3), (4, .int x4), (5, .int x5), (7, .int x7)] [] h (kI (fun _ h' => apM h0 h')) := by
  have t20 : (20 : Int32).toInt = 20 := rfl
  intro r
  induction r with
  | zero =>
    intro k x7 e q h o b g
    have hk : k = 20 := by omega
    subst hk
    exact t_X12_feed_62 d h o.1 x1 x2 x3 x4 x5 x7 _ ⟨fun _ => ⟨o, ⟨by omega, by omega⟩, g⟩, fun c => absurd (ti_le.mpr (by omega)) c⟩
  | succ r ih =>
    intro k x7 e q h o b g
    have s7 := ti_suc (x := x7) (by omega)
    have ek := of_ti e (by omega)
    refine t_X12_feed_62 d h o.1 x1 x2 x3 x4 x5 x7 _ ⟨fun c => absurd (ti_le.mp c) (by omega), fun _ => Ci.mono (sf_X12_byteOf d h x1 x2 x3 x4 x5 x7) (fun r10 h8 kk => ?_)⟩
    obtain ⟨e1, e2⟩ := kk
    rw [e2]
    have st : cnF x1 x2 x3 x4 x5 (k + 1) = cnF x1 x2 x3 x4 x5 k + (if by_ x1 x2 x3 x4 x5 (Int32.ofNat k) = 0 then 0 else 1) := rfl
    rw [← ek, ← e1] at st
    refine ⟨o.1, fun z => ?_, fun z => ?_⟩
    · rw [if_pos z] at st
      exact ih (k + 1) (x7 + 1) (by omega) (by omega) h o (by rw [b, st]; omega) g
    · rw [if_neg z] at st
      have le := cnF_mo x1 x2 x3 x4 x5 (k + 1) r
      rw [show k + 1 + r = 20 by omega] at le
      have sc := ti_suc (x := h_i h 1 32) (by omega)
      refine ⟨vin_ti (by omega) (by omega), ih (k + 1) (x7 + 1) (by omega) (by omega) _ ((o.im (by decide)).im (by decide)) ?_ (fun j hj => ?_)⟩
      · rw [h_i_im, if_pos ⟨rfl, rfl⟩, sc, b, st]
        omega
      · rw [h_i_im, if_neg (fun z => hj z.2), h_i_im, if_neg (by omega)]
        exact g j hj
theorem sf_feed_6 (d : Nat) (h : Hp_) (w : Wf h) (b : bd h 1 32 0 160) (x1 x2 x3 x4 x5 : Int32) : ∀ (r k : Nat) (x6 x7 : Int32), x7.toInt = k → x6.toInt = cnF x1 x2 x3 x4 x5 k → k + r = 20 →
    AW (m_X12_feed (d + 1) 0 0) 0 0 6 [(0, .ref 1), (1, .int x1), (2, .int x2), (3, .int x3), (4, .int x4), (5, .int x5), (6, .int x6), (7, .int x7)] [] h (kI (fun _ h' => apM h h')) := by
  have t20 : (20 : Int32).toInt = 20 := rfl
  have t160 : (160 : Int32).toInt = 160 := rfl
  have b1 := b.1
  have b2 := b.2
  intro r
  induction r with
  | zero =>
    intro k x6 x7 e e6 q
    have hk : k = 20 := by omega
    subst hk
    have m := cnF_mk x1 x2 x3 x4 x5 20
    have s := ti_add (x := h_i h 1 32) (y := x6) (by omega) (by omega)
    refine t_X12_feed_6 d h w x1 x2 x3 x4 x5 x6 x7 _ ⟨fun _ => ⟨fun c => ?_, fun _ => ⟨only.rf w, b, fun _ _ => rfl⟩⟩, fun c => absurd (ti_le.mpr (by omega)) c⟩
    have c' := ti_le.mp c
    exact sf_feed_62 d h x1 x2 x3 x4 x5 (h_i h 1 32).toInt.toNat (by omega) 20 0 0 rfl rfl h (only.rf w) (by show _ = _ + ((0 : Nat) : Int); omega) (fun _ _ => rfl)
  | succ r ih =>
    intro k x6 x7 e e6 q
    have s7 := ti_suc (x := x7) (by omega)
    have ek := of_ti e (by omega)
    have m := cnF_mk x1 x2 x3 x4 x5 k
    have s6 := ti_suc (x := x6) (by omega)
    refine t_X12_feed_6 d h w x1 x2 x3 x4 x5 x6 x7 _ ⟨fun c => absurd (ti_le.mp c) (by omega), fun _ => Ci.mono (sf_X12_byteOf d h x1 x2 x3 x4 x5 x7) (fun r5 h3 kk => ?_)⟩
    obtain ⟨e1, e2⟩ := kk
    rw [e2]
    have st : cnF x1 x2 x3 x4 x5 (k + 1) = cnF x1 x2 x3 x4 x5 k + (if by_ x1 x2 x3 x4 x5 (Int32.ofNat k) = 0 then 0 else 1) := rfl
    rw [← ek, ← e1] at st
    refine ⟨w, fun z => ?_, fun z => ?_⟩
    · rw [if_pos z] at st
      exact ih (k + 1) (x6 + 0) (x7 + 1) (by omega) (by rw [Int32.add_zero, e6, st]; omega) (by omega)
    · rw [if_neg z] at st
      exact ih (k + 1) (x6 + 1) (x7 + 1) (by omega) (by rw [s6, e6, st]; omega) (by omega)
theorem sf_X12_feed (d : Nat) (h : Hp_) (w : Wf h) (b : bd h 1 32 0 160) (x1 x2 x3 x4 x5 : Int32) : Ci (m_X12_feed (d + 1) 0 0) [.ref 1, .int x1, .int x2, .int x3, .int x4, .int x5] h (fun _ h' => apM h h') :=
  t_X12_feed d h x1 x2 x3 x4 x5 _ (sf_feed_6 d h w b x1 x2 x3 x4 x5 20 0 0 0 rfl rfl rfl)
end
section
/-! walkOf and feed of the reference as contracts -/
theorem Iv_only {h h' : Hp_} {L : List Nat} (I : Iv h) (o : only L h h') (h0 : 0 ∉ L) (hj : ∀ a ∈ L, jr a = false) (hr : ∀ a ∈ L, ∀ k, rin (h_i h' a k).toInt (tf a k)) : Iv h' := by
  obtain ⟨w, e, el, er, es⟩ := o
  have cn' : ∀ c, Cn h c → Cn h' c := fun c z => ⟨z.1, z.2.1, by rw [es]; exact z.2.2⟩
  refine ⟨w, fun a k => ?_, fun k => ?_, ?_, ?_, Jv_same (fun a k ha => ?_) es (by rw [er]) I.2.2.2.2.2⟩
  · by_cases c : a ∈ L
    · exact hr a c k
    · rw [e a c]; exact I.2.1 a k
  · rw [er]
    rcases I.2.2.1 k with z | ⟨c, z, y⟩
    · exact Or.inl z
    · exact Or.inr ⟨c, z, cn' c y⟩
  · rw [er]; exact I.2.2.2.1
  · obtain ⟨c, N, c1, c2, c3, c4⟩ := I.2.2.2.2.1
    exact ⟨c, N, by rw [er]; exact c1, by rw [es]; exact c2, c3, by rw [e 0 h0]; exact c4⟩
  · rw [e a (fun z => by rw [jw_jr (fun y => h0 (y ▸ z)) (hj a z)] at ha; cases ha)]
theorem tf_bd {h : Hp_} (I : Iv h) (a k : Nat) {lo hi : Int} (e : tf a k = (lo, hi)) : bd h a k lo hi := by
  have := I.2.1 a k
  rw [e] at this
  exact this
theorem Iv_RdI {h : Hp_} (I : Iv h) : RdI h := by
  have e0 : tfa 200 = some (0, 15) := by decide +kernel
  have e1 : tfa 201 = some (0, 15) := by decide +kernel
  have e2 : tfa 202 = some (0, 60) := by decide +kernel
  exact ⟨tf_bd I 1 6 (by decide +kernel), fun k _ => ⟨tf_bd I 200 k (tfa_tf e0 k), tf_bd I 201 k (tfa_tf e1 k), tf_bd I 202 k (tfa_tf e2 k)⟩⟩
def wz_X12_walkOf : List Nat := [203999]
def q_X12_walkOf : Ctr := ([.inl ((0, 15), (0, 0), none), .inl (((-2147483648), 2147483647), (0, 0), none), .inr 11], [], (some (.inl (((-1), 100000), (0, 0), none))), [], wz_X12_walkOf)
theorem hc_X12_walkOf (n : Nat) : Hc (m_X12_walkOf (n + 0) 0 0) q_X12_walkOf := by
  intro vs h ma I hp
  match vs, ma with
  | [v2, v1, v0], ma =>
    obtain ⟨⟨x2, e2, b2, _⟩, ⟨x1, e1, _, _⟩, e0, _⟩ := ma
    have e0 : v0 = .ref 1 := e0
    subst e0 e1 e2
    have b20 : 0 ≤ x2.toInt := b2.1
    have b21 : x2.toInt ≤ 15 := b2.2
    refine Ct.mono (sf_X12_walkOf n h I.1 (Iv_RdI I) x1 x2 ⟨b20, by omega⟩) (fun v h' q => ?_)
    obtain ⟨r, ev, o, c⟩ := q
    subst ev
    have t203 : tfa 203 = some rtop := by decide +kernel
    refine ⟨Iv_only I o (by decide) (by decide) (fun a ha k => ?_), ⟨o.2.2.2.2, fun b k hb => ?_⟩, fun _ z => (nomatch z), _, rfl, r, rfl, ?_, fun _ z => (nomatch z)⟩
    · have ha := mem1 ha
      rw [ha, tfa_tf t203]; exact rtop_in _
    · have nb : b ≠ 203 := fun z => by
        rw [z] at hb
        have t : inw wz_X12_walkOf 203 k = true := inw_row (by decide +kernel) k
        have hb : inw wz_X12_walkOf 203 k = false := hb
        rw [hb] at t; cases t
      exact ⟨by rw [o.2.1 b (fun z => nb (mem1 z))], by rw [o.2.2.1], by rw [o.2.2.2.1]⟩
    · have tm : (-1 : Int32).toInt = -1 := rfl
      rcases c with c | c
      · rw [c]; exact ⟨by decide, by decide⟩
      · exact ⟨by show (-1 : Int) ≤ _; omega, by show _ ≤ (100000 : Int); omega⟩
def wz_X12_feed : List Nat := [1032, 225999]
def q_X12_feed : Ctr := ([.inl (((-2147483648), 2147483647), (0, 0), none), .inl (((-2147483648), 2147483647), (0, 0), none), .inl (((-2147483648), 2147483647), (0, 0), none), .inl (((-2147483648), 2147483647), (0, 0), none), .inl (((-2147483648), 2147483647), (0, 0), none), .inr 11], [], (some (.inl (((-2147483648), 2147483647), (0, 0), none))), [], wz_X12_feed)
theorem hc_X12_feed (n : Nat) : Hc (m_X12_feed (n + 1) 0 0) q_X12_feed := by
  intro vs h ma I hp
  match vs, ma with
  | [v5, v4, v3, v2, v1, v0], ma =>
    obtain ⟨⟨x5, e5, _⟩, ⟨x4, e4, _⟩, ⟨x3, e3, _⟩, ⟨x2, e2, _⟩, ⟨x1, e1, _⟩, e0, _⟩ := ma
    have e0 : v0 = .ref 1 := e0
    subst e0 e1 e2 e3 e4 e5
    have t32 : tf 1 32 = (0, 160) := by decide +kernel
    refine Ct.mono (sf_X12_feed n h I.1 (tf_bd I 1 32 t32) x1 x2 x3 x4 x5) (fun v h' q => ?_)
    obtain ⟨r, ev, o, b, s⟩ := q
    subst ev
    have t225 : tfa 225 = some rtop := by decide +kernel
    refine ⟨Iv_only I o (by decide) (by decide) (fun a ha k => ?_), ⟨o.2.2.2.2, fun c k hb => ?_⟩, fun _ z => (nomatch z), _, rfl, r, rfl, rtop_in _, fun _ z => (nomatch z)⟩
    · rcases List.mem_cons.mp ha with z | z
      · rw [z, tfa_tf t225]; exact rtop_in _
      · have z := mem1 z
        rw [z]
        by_cases y : k = 32
        · rw [y, t32]; exact b
        · rw [s k y]; exact I.2.1 1 k
    · have n225 : c ≠ 225 := fun z => by
        rw [z] at hb
        have t : inw wz_X12_feed 225 k = true := inw_row (by decide +kernel) k
        have hb : inw wz_X12_feed 225 k = false := hb
        rw [hb] at t; cases t
      refine ⟨?_, by rw [o.2.2.1], by rw [o.2.2.2.1]⟩
      by_cases y : c = 1
      · subst y
        have k32 : k ≠ 32 := fun z => by rw [z] at hb; exact absurd hb (by decide +kernel)
        exact s k k32
      · rw [o.2.1 c (fun z => by rcases List.mem_cons.mp z with w | w; exact n225 w; exact y (mem1 w))]
theorem Cn_fr {ws : List Nat} {h h' : Hp_} {c : Nat} (f : Fr ws h h') (w : Cn h c) : Cn h' c := ⟨w.1, w.2.1, by rw [f.1]; exact w.2.2⟩
/-- a call on an object, its arguments known -/
theorem aw_Vc {M M' : Mc_} {K : Option Value → Hp_ → Prop} {pc n idx ci N a : Nat} {lv : List (Nat × Value)} {rest : List Value} {h : Hp_} {c : Ctr} {T : u_T} (vs : List Value) (hC : Hc M' c) (ma : am h (vs.reverse ++ [.ref a]) c.1) (I : Iv h) (hp : hm h c.2.1) (hd : decode (mC M) pc = .ok (.invokevirtual idx, 3)) (hm : cV_ M' n) (hkc : kc_ ci (mY M').cls T N) (hs : h_sh h a = some (ci + 10, N)) (hlk : Cond.methodLink (mY M).cls idx (mY M') ∈ lw_g) (hn : vs.length = n) (hc : (rest.map (fun v => v.category)).sum ≤ 8) (hz : rz_ M' M)
    (k : ∀ v h', Kc c.2.2.2.2 h c.2.2.1 c.2.2.2.1 v h' → AW M 0 0 (pc + 3) lv (v.toList ++ rest) h' K) : AW M 0 0 pc lv (vs.reverse ++ .ref a :: rest) h K := by
  have C := hC _ h ma I hp
  rw [List.reverse_append, List.reverse_reverse, List.reverse_singleton, List.singleton_append] at C
  exact aw_callV hd hm.1 hkc hs hm.2.1 hm.2.2 hlk hn hz.1 hc ⟨by rw [hz.2.1]; exact Nat.zero_le _, by rw [hz.2.2.1]; exact Nat.zero_le _⟩ hz.2.2.2 C (fun v h' kv => by rw [hz.2.1, hz.2.2.1]; exact k v h' kv)
end
section
/-! texts: what the JDK's own methods do with them -/
section TXT
variable {M M' : Mc_} {kc ks pc : Nat} {lv : List (Nat × Value)} {st rest : List Value} {h : Hp_} {K : Option Value → Hp_ → Prop}
abbrev tln (i : Nat) : Nat := [0, 9, 6, 4].getD i 0
abbrev tby (i : Nat) : List Int32 := [[], [107, 119, 112, 104, 100, 99, 110, 101, 116], [99, 121, 109, 120, 116, 97], [120, 110, 114, 116]].getD i []
theorem aw_tval {i idx : Nat} (hi : i < 4) (hlk : Cond.fieldLink (mY M).cls idx "java/lang/String" "value" "[B" ∈ lw_g) (hd : decode (mC M) pc = .ok (.getfield idx, 3)) (k : AW M kc ks (pc + 3) lv (.ref (2000 + i) :: st) h K) : AW M kc ks pc lv (.ref (1000 + i) :: st) h K := by
  intro l p e s m args below meth c dC dI cy A ad0 adV ad dom0 dom H locs ls hf hX hT hE hW hS hl ho hs
  have z := (hT.1.1.1 i hi).2.2.1
  rw [← hT.1.2.1 i] at z
  exact vk_getf hf.1 hf.2.1 z hS hf.2.2.2.2.2.1 (hf.2.2.2.2.2.2.2.1 _ hlk) (fun _ w => w) hd (k l p e s m args below meth c dC dI cy A ad0 adV ad dom0 dom H locs ls hf hX hT hE hW hS hl ho (ok_c (fun z w => by cases w; exact Or.inr (show 1000 ≤ 2000 + i by omega)) (ok_t hs)))
theorem aw_tcod {i idx : Nat} (hi : i < 4) (hlk : Cond.fieldLink (mY M).cls idx "java/lang/String" "coder" "B" ∈ lw_g) (hd : decode (mC M) pc = .ok (.getfield idx, 3)) (k : AW M kc ks (pc + 3) lv (.int 0 :: st) h K) : AW M kc ks pc lv (.ref (1000 + i) :: st) h K := by
  intro l p e s m args below meth c dC dI cy A ad0 adV ad dom0 dom H locs ls hf hX hT hE hW hS hl ho hs
  exact vk_getf hf.1 hf.2.1 (hT.1.1.1 i hi).2.1 hS hf.2.2.2.2.2.1 (hf.2.2.2.2.2.2.2.1 _ hlk) (fun _ w => w) hd (k l p e s m args below meth c dC dI cy A ad0 adV ad dom0 dom H locs ls hf hX hT hE hW hS hl ho (ok_c ok_i (ok_t hs)))
theorem aw_tcmp {idx : Nat} (hlk : Cond.fieldLink (mY M).cls idx "java/lang/String" "COMPACT_STRINGS" "Z" ∈ lw_g) (hd : decode (mC M) pc = .ok (.getstatic idx, 3)) (k : AW M kc ks (pc + 3) lv (.int 1 :: st) h K) : AW M kc ks pc lv st h K := by
  intro l p e s m args below meth c dC dI cy A ad0 adV ad dom0 dom H locs ls hf hX hT hE hW hS hl ho hs
  exact va_gets hf.1 hf.2.1 hT.1.2.2.1 hS hf.2.2.2.2.2.1 (hf.2.2.2.2.2.2.2.1 _ hlk) (fun _ w => w) hd (k l p e s m args below meth c dC dI cy A ad0 adV ad dom0 dom H locs ls hf hX hT hE hW hS hl ho (ok_c ok_i hs))
theorem aw_tfmt {idx : Nat} (hlk : Cond.fieldLink (mY M).cls idx "jdk/internal/util/Preconditions" "SIOOBE_FORMATTER" "Ljava/util/function/BiFunction;" ∈ lw_g) (hd : decode (mC M) pc = .ok (.getstatic idx, 3)) (k1 : AW M kc ks (pc + 3) lv (.null :: st) h K) (k2 : AW M kc ks (pc + 3) lv (.ref 2100 :: st) h K) : AW M kc ks pc lv st h K := by
  intro l p e s m args below meth c dC dI cy A ad0 adV ad dom0 dom H locs ls hf hX hT hE hW hS hl ho hs
  rcases hT.1.2.2.2 with z | z
  · exact va_gets hf.1 hf.2.1 z hS hf.2.2.2.2.2.1 (hf.2.2.2.2.2.2.2.1 _ hlk) (fun _ w => w) hd (k1 l p e s m args below meth c dC dI cy A ad0 adV ad dom0 dom H locs ls hf hX hT hE hW hS hl ho (ok_c ok_n hs))
  · exact va_gets hf.1 hf.2.1 z hS hf.2.2.2.2.2.1 (hf.2.2.2.2.2.2.2.1 _ hlk) (fun _ w => w) hd (k2 l p e s m args below meth c dC dI cy A ad0 adV ad dom0 dom H locs ls hf hX hT hE hW hS hl ho (ok_c (fun z w => by cases w; exact Or.inr (show 1000 ≤ 2100 by decide)) hs))
theorem aw_tlen {i : Nat} (hi : i < 4) (hd : decode (mC M) pc = .ok (.arraylength, 1)) (k : AW M kc ks (pc + 1) lv (.int (Int32.ofNat (tln i)) :: st) h K) : AW M kc ks pc lv (.ref (2000 + i) :: st) h K := by
  intro l p e s m args below meth c dC dI cy A ad0 adV ad dom0 dom H locs ls hf hX hT hE hW hS hl ho hs
  have z := (hT.1.1.1 i hi).2.2.2
  rw [← hT.1.2.1 i] at z
  exact va_tlen hf.1 hf.2.1 z hS rfl hd (k l p e s m args below meth c dC dI cy A ad0 adV ad dom0 dom H locs ls hf hX hT hE hW hS hl ho (ok_c ok_i (ok_t hs)))
theorem aw_tb {i : Nat} {x : Int32} (hi : i < 4) (hin : vp_in x (tln i)) (hd : decode (mC M) pc = .ok (.baload, 1)) (k : AW M kc ks (pc + 1) lv (.int ((tby i).getD x.toNatClampNeg 0) :: st) h K) : AW M kc ks pc lv (.int x :: .ref (2000 + i) :: st) h K := by
  intro l p e s m args below meth c dC dI cy A ad0 adV ad dom0 dom H locs ls hf hX hT hE hW hS hl ho hs
  have z := (hT.1.1.1 i hi).2.2.2
  rw [← hT.1.2.1 i] at z
  exact va_tb hf.1 hf.2.1 z hS hin rfl hd (k l p e s m args below meth c dC dI cy A ad0 adV ad dom0 dom H locs ls hf hX hT hE hW hS hl ho (ok_c ok_i (ok_t (ok_t hs))))
theorem aw_callT {n idx i : Nat} {vs : List Value} {K' : Option Value → Hp_ → Prop} (hi : i < 4) (hd : decode (mC M) pc = .ok (.invokevirtual idx, 3)) (hcl : (mY M').cls = "java/lang/String") (hm : cV_ M' n) (hlk : Cond.methodLink (mY M).cls idx (mY M') ∈ lw_g) (hn : vs.length = n) (hR : rr_ M' M kc ks) (hc : (rest.map (fun v => v.category)).sum ≤ 8) (hXs : xs_ M)
    (hC : Ct M' (.ref (1000 + i) :: vs) h K') (k : ∀ v h', K' v h' → AW M (kc + (mR M').cells) (ks + (mR M').slots) (pc + 3) lv (v.toList ++ rest) h' K) : AW M kc ks pc lv (vs.reverse ++ .ref (1000 + i) :: rest) h K := by
  intro l p e s m args below meth c dC dI cy A ad0 adV ad dom0 dom H locs ls hf hX hT hE hW hS hl ho hs
  have hov : ∀ v ∈ Value.ref (1000 + i) :: vs, h_ok dom v := fun v hv => hs v (by
    rcases List.mem_cons.mp hv with z | z
    · exact List.mem_append_right _ (by rw [z]; exact List.mem_cons_self)
    · exact List.mem_append_left _ (List.mem_reverse.mpr z))
  have hrv := vk_recv hT.1.1 hi hS
  rw [← hcl] at hrv
  refine aw_back (a := (Value.ref (ad (1000 + i)) :: vs.map (h_cv ad)).toArray) hXs hf hX hT hE hW hS hl ho (fun v hv => hs v (List.mem_append_right _ (List.mem_cons_of_mem _ hv))) ?_ k
  exact va_runV (As := vs.map (h_cv ad)) ⟨hf.1, hf.2.1, hf.2.2.1, hf.2.2.2.2.2.1, hf.2.2.2.2.2.2.2.1⟩ (hC l dC dI cy ad adV dom H.size hW.1 hov) ⟨cb_ hf.2.2.2.2.2.2.2.1 hm.1 hlk hR.1, hf.2.2.2.2.2.2.2.1 _ hm.2.1, hf.2.2.2.2.2.2.2.1 _ hm.2.2⟩ ⟨cp_blind, hrv, fun U hU hWm => ⟨rfl, cp_pre hf hT hW hS hU hWm⟩⟩ rfl (by rw [List.length_map]; exact hn) hl.1 (by rw [List.map_append, List.map_reverse]; rfl) (lv_room (by rw [cat_cv]; exact hc)) hd hR.2
theorem aw_Ti {n idx i : Nat} (vs rest : List Value) (hi : i < 4) (hd : decode (mC M) pc = .ok (.invokevirtual idx, 3)) (hcl : (mY M').cls = "java/lang/String") (hm : cV_ M' n) (hlk : Cond.methodLink (mY M).cls idx (mY M') ∈ lw_g) (hn : vs.length = n) (hR : rr_ M' M kc ks) (hc : (rest.map (fun v => v.category)).sum ≤ 8) (hXs : xs_ M) {K' : Int32 → Hp_ → Prop}
    (hC : Ci M' (.ref (1000 + i) :: vs) h K') (k : ∀ r h', K' r h' → AW M (kc + (mR M').cells) (ks + (mR M').slots) (pc + 3) lv (.int r :: rest) h' K) : AW M kc ks pc lv (vs.reverse ++ .ref (1000 + i) :: rest) h K :=
  aw_callT hi hd hcl hm hlk hn hR hc hXs hC (fun _ _ ⟨r, e, w⟩ => e ▸ k r _ w)
end TXT
theorem c_isLatin1 (d i : Nat) (hi : i < 4) (h : Hp_) : Ci (m_J0_isLatin1_aae02 (d + 0) 0 0) [.ref (1000 + i)] h (fun r h' => r = 1 ∧ h' = h) := by
  refine Ct.of (fun _ _ _ => trivial) rfl (Nat.le_of_ble_eq_true rfl) ?_
  show AW (m_J0_isLatin1_aae02 (d + 0) 0 0) 0 0 0 [(0, .ref (1000 + i))] [] h (kI _)
  refine aw_tcmp tw_772 d_J0_isLatin1_aae02_0 ?_
  refine aw_if_eq (tgt := 17) d_J0_isLatin1_aae02_3 rfl (fun c => absurd c (by decide)) (fun _ => ?_)
  refine aw_aload_n (i := 0) rfl d_J0_isLatin1_aae02_6 0 rfl ?_
  refine aw_tcod hi tw_2710 d_J0_isLatin1_aae02_7 ?_
  refine aw_if_ne (tgt := 17) d_J0_isLatin1_aae02_10 rfl (fun c => absurd rfl c) (fun _ => ?_)
  refine aw_iconst (v := 1) d_J0_isLatin1_aae02_13 ic_1 ?_
  refine aw_goto (tgt := 18) d_J0_isLatin1_aae02_14 rfl ?_
  exact aw_zret rfl rfl d_J0_isLatin1_aae02_18 ⟨Nat.le_refl _, Nat.le_refl _⟩ ⟨_, rfl, rfl, rfl⟩
theorem c_coder (d i : Nat) (hi : i < 4) (h : Hp_) : Ci (m_J0_coder_7d493 (d + 0) 0 0) [.ref (1000 + i)] h (fun r h' => r = 0 ∧ h' = h) := by
  refine Ct.of (fun _ _ _ => trivial) rfl (Nat.le_of_ble_eq_true rfl) ?_
  show AW (m_J0_coder_7d493 (d + 0) 0 0) 0 0 0 [(0, .ref (1000 + i))] [] h (kI _)
  refine aw_tcmp tw_772 d_J0_coder_7d493_0 ?_
  refine aw_if_eq (tgt := 13) d_J0_coder_7d493_3 rfl (fun c => absurd c (by decide)) (fun _ => ?_)
  refine aw_aload_n (i := 0) rfl d_J0_coder_7d493_6 0 rfl ?_
  refine aw_tcod hi tw_2710 d_J0_coder_7d493_7 ?_
  refine aw_goto (tgt := 14) d_J0_coder_7d493_10 rfl ?_
  exact aw_zret rfl rfl d_J0_coder_7d493_14 ⟨Nat.le_refl _, Nat.le_refl _⟩ ⟨_, rfl, rfl, rfl⟩
theorem ln_sh {i : Nat} (hi : i < 4) : rin (Int32.ofNat (tln i) >>> ((0 : Int32) &&& 31)).toInt (0, 9) := by
  match i, hi with
  | 0, _ => exact ⟨by decide, by decide⟩
  | 1, _ => exact ⟨by decide, by decide⟩
  | 2, _ => exact ⟨by decide, by decide⟩
  | 3, _ => exact ⟨by decide, by decide⟩
  | i + 4, h => exact absurd h (by omega)
theorem c_length (d i : Nat) (hi : i < 4) (h : Hp_) : Ci (m_J0_length_8abf5 (d + 1) 0 0) [.ref (1000 + i)] h (fun r h' => rin r.toInt (0, 9) ∧ h' = h) := by
  refine Ct.of (fun _ _ _ => trivial) rfl (Nat.le_of_ble_eq_true rfl) ?_
  show AW (m_J0_length_8abf5 (d + 1) 0 0) 0 0 0 [(0, .ref (1000 + i))] [] h (kI _)
  refine aw_aload_n (i := 0) rfl d_J0_length_8abf5_0 0 rfl ?_
  refine aw_tval hi tw_2711 d_J0_length_8abf5_1 ?_
  refine aw_tlen hi d_J0_length_8abf5_4 ?_
  refine aw_aload_n (i := 0) rfl d_J0_length_8abf5_5 0 rfl ?_
  refine aw_Ti [] [.int (Int32.ofNat (tln i))] hi d_J0_length_8abf5_6 rfl (cV_J0_coder_7d493 (d + 0) 0 0) tw_778 rfl (rr0 (Nat.le_of_ble_eq_true rfl) (Nat.le_of_ble_eq_true rfl)) (Nat.le_of_ble_eq_true rfl) xs0 (c_coder d i hi h) (fun r h1 kk => ?_)
  obtain ⟨e0, e⟩ := kk
  rw [e, e0]
  refine aw_ishr d_J0_length_8abf5_9 ?_
  exact aw_iret rfl d_J0_length_8abf5_10 ⟨Nat.le_refl _, Nat.le_refl _⟩ ⟨_, rfl, ln_sh hi, rfl⟩
theorem c_canEncode (d : Nat) (x : Int32) (h : Hp_) : Ci (m_J1_canEncode_9a6ad (d + 0) 0 0) [.int x] h (fun _ h' => h' = h) := by
  refine Ct.of (fun _ _ _ => trivial) rfl (Nat.le_of_ble_eq_true rfl) ?_
  show AW (m_J1_canEncode_9a6ad (d + 0) 0 0) 0 0 0 [(0, .int x)] [] h (kI _)
  have z : AW (m_J1_canEncode_9a6ad (d + 0) 0 0) 0 0 15 [(0, .int x)] [] h (kI (fun _ h' => h' = h)) := by
    refine aw_iconst (v := 0) d_J1_canEncode_9a6ad_15 ic_0 ?_
    exact aw_zret rfl rfl d_J1_canEncode_9a6ad_16 ⟨Nat.le_refl _, Nat.le_refl _⟩ ⟨_, rfl, rfl⟩
  refine aw_iload_n (i := 0) rfl d_J1_canEncode_9a6ad_0 0 rfl ?_
  refine aw_if_lt (tgt := 15) d_J1_canEncode_9a6ad_1 rfl (fun _ => z) (fun _ => ?_)
  refine aw_iload_n (i := 0) rfl d_J1_canEncode_9a6ad_4 0 rfl ?_
  refine aw_sipush (v := 255) d_J1_canEncode_9a6ad_5 (by decide) ?_
  refine aw_icmp_gt (tgt := 15) d_J1_canEncode_9a6ad_8 rfl (fun _ => z) (fun _ => ?_)
  refine aw_iconst (v := 1) d_J1_canEncode_9a6ad_11 ic_1 ?_
  refine aw_goto (tgt := 16) d_J1_canEncode_9a6ad_12 rfl ?_
  exact aw_zret rfl rfl d_J1_canEncode_9a6ad_16 ⟨Nat.le_refl _, Nat.le_refl _⟩ ⟨_, rfl, rfl⟩
theorem tln_le {i : Nat} (hi : i < 4) : tln i ≤ 9 := by
  match i, hi with
  | 0, _ => decide
  | 1, _ => decide
  | 2, _ => decide
  | 3, _ => decide
  | i + 4, h => exact absurd h (by omega)
theorem vp_tln {i : Nat} {x : Int32} (h0 : 0 ≤ x.toInt) (h1 : x.toInt < (tln i : Int)) : vp_in x (tln i) := by
  have b : (x.toNatClampNeg : Int) = x.toInt := by
    show ((x.toInt.toNat : Nat) : Int) = _
    omega
  have a0 : (0 : Int32).toInt = 0 := rfl
  rintro (y | y)
  · have y := q_lt.mp y
    omega
  · omega
theorem l_ixc (d i : Nat) (hi : i < 4) (h : Hp_) (c f t b : Int32) (ht : t.toInt ≤ (tln i : Int)) : ∀ (N : Nat) (x : Int32), 0 ≤ x.toInt → (t.toInt - x.toInt).toNat = N →
    AW (m_J1_indexOfChar_4cfef (d + 0) 0 0) 0 0 7 [(0, .ref (2000 + i)), (1, .int c), (2, .int f), (3, .int t), (4, .int b), (5, .int x)] [] h (kI (fun r h' => rin r.toInt (-1, 8) ∧ h' = h)) := by
  intro N
  induction N with
  | zero =>
    intro x x0 e
    refine aw_iload d_J1_indexOfChar_4cfef_7 5 rfl ?_
    refine aw_iload_n (i := 3) rfl d_J1_indexOfChar_4cfef_9 3 rfl ?_
    refine aw_icmp_ge (tgt := 31) d_J1_indexOfChar_4cfef_10 rfl (fun _ => ?_) (fun z => ?_)
    · refine aw_iconst (v := -1) d_J1_indexOfChar_4cfef_31 ic_m1 ?_
      exact aw_iret rfl d_J1_indexOfChar_4cfef_32 ⟨Nat.le_refl _, Nat.le_refl _⟩ ⟨_, rfl, ⟨by decide, by decide⟩, rfl⟩
    · have z := q_nle z
      omega
  | succ N ih =>
    intro x x0 e
    have l9 := tln_le hi
    refine aw_iload d_J1_indexOfChar_4cfef_7 5 rfl ?_
    refine aw_iload_n (i := 3) rfl d_J1_indexOfChar_4cfef_9 3 rfl ?_
    refine aw_icmp_ge (tgt := 31) d_J1_indexOfChar_4cfef_10 rfl (fun _ => ?_) (fun z => ?_)
    · refine aw_iconst (v := -1) d_J1_indexOfChar_4cfef_31 ic_m1 ?_
      exact aw_iret rfl d_J1_indexOfChar_4cfef_32 ⟨Nat.le_refl _, Nat.le_refl _⟩ ⟨_, rfl, ⟨by decide, by decide⟩, rfl⟩
    · have z := q_nle z
      refine aw_aload_n (i := 0) rfl d_J1_indexOfChar_4cfef_13 0 rfl ?_
      refine aw_iload d_J1_indexOfChar_4cfef_14 5 rfl ?_
      refine aw_tb hi (vp_tln x0 (by omega)) d_J1_indexOfChar_4cfef_16 ?_
      refine aw_iload d_J1_indexOfChar_4cfef_17 4 rfl ?_
      refine aw_icmp_ne (tgt := 25) d_J1_indexOfChar_4cfef_19 rfl (fun _ => ?_) (fun _ => ?_)
      · refine aw_iinc (v := (x + 1)) [(0, .ref (2000 + i)), (1, .int c), (2, .int f), (3, .int t), (4, .int b), (5, .int (x + 1))] d_J1_indexOfChar_4cfef_25 5 rfl rfl (Nat.le_of_ble_eq_true rfl) rfl rfl ?_
        refine aw_goto (tgt := 7) d_J1_indexOfChar_4cfef_28 rfl ?_
        have e1 : (x + 1).toInt = x.toInt + 1 := by
          rw [Int32.toInt_add]
          have o1 : (1 : Int32).toInt = 1 := rfl
          rw [o1, Int.bmod_eq_of_le (by omega) (by omega)]
        exact ih (x + 1) (by omega) (by omega)
      · refine aw_iload d_J1_indexOfChar_4cfef_22 5 rfl ?_
        exact aw_iret rfl d_J1_indexOfChar_4cfef_24 ⟨Nat.le_refl _, Nat.le_refl _⟩ ⟨_, rfl, ⟨by show (-1 : Int) ≤ _; omega, by show _ ≤ (8 : Int); omega⟩, rfl⟩
theorem c_ixChar (d i : Nat) (hi : i < 4) (h : Hp_) (c f t : Int32) (hf : 0 ≤ f.toInt) (ht : t.toInt ≤ (tln i : Int)) : Ci (m_J1_indexOfChar_4cfef (d + 0) 0 0) [.ref (2000 + i), .int c, .int f, .int t] h (fun r h' => rin r.toInt (-1, 8) ∧ h' = h) := by
  refine Ct.of (fun _ _ _ => trivial) rfl (Nat.le_of_ble_eq_true rfl) ?_
  show AW (m_J1_indexOfChar_4cfef (d + 0) 0 0) 0 0 0 [(0, .ref (2000 + i)), (1, .int c), (2, .int f), (3, .int t)] [] h (kI _)
  refine aw_iload_n (i := 1) rfl d_J1_indexOfChar_4cfef_0 1 rfl ?_
  refine aw_i2b d_J1_indexOfChar_4cfef_1 ?_
  refine aw_istore (i := 4) [(0, .ref (2000 + i)), (1, .int c), (2, .int f), (3, .int t), (4, .int (c.toInt8.toInt32))] d_J1_indexOfChar_4cfef_2 (Nat.le_of_ble_eq_true rfl) rfl rfl ?_
  refine aw_iload_n (i := 2) rfl d_J1_indexOfChar_4cfef_4 2 rfl ?_
  refine aw_istore (i := 5) [(0, .ref (2000 + i)), (1, .int c), (2, .int f), (3, .int t), (4, .int (c.toInt8.toInt32)), (5, .int f)] d_J1_indexOfChar_4cfef_5 (Nat.le_of_ble_eq_true rfl) rfl rfl ?_
  exact l_ixc d i hi h c f t _ ht _ f hf rfl
theorem c_ixLatin (d i : Nat) (hi : i < 4) (h : Hp_) (c f t : Int32) : Ci (m_J1_indexOf_4cfef (d + 1) 0 0) [.ref (2000 + i), .int c, .int f, .int t] h (fun r h' => rin r.toInt (-1, 8) ∧ h' = h) := by
  refine Ct.of (fun _ _ _ => trivial) rfl (Nat.le_of_ble_eq_true rfl) ?_
  show AW (m_J1_indexOf_4cfef (d + 1) 0 0) 0 0 0 [(0, .ref (2000 + i)), (1, .int c), (2, .int f), (3, .int t)] [] h (kI _)
  have l9 := tln_le hi
  refine aw_iload_n (i := 1) rfl d_J1_indexOf_4cfef_0 1 rfl ?_
  refine aw_Si [.int c] [] d_J1_indexOf_4cfef_1 (cS_J1_canEncode_9a6ad (d + 0) 0 0) tw_785 rfl (rr0 (Nat.le_of_ble_eq_true rfl) (Nat.le_of_ble_eq_true rfl)) (Nat.le_of_ble_eq_true rfl) xs0 (c_canEncode d c h) (fun r h1 kk => ?_)
  rw [kk]
  refine aw_if_ne (tgt := 9) d_J1_indexOf_4cfef_4 rfl (fun _ => ?_) (fun _ => ?_)
  · refine aw_iload_n (i := 2) rfl d_J1_indexOf_4cfef_9 2 rfl ?_
    refine aw_iconst (v := 0) d_J1_indexOf_4cfef_10 ic_0 ?_
    refine aw_mmax d_J1_indexOf_4cfef_11 tw_788 (show 1 ≤ (d + 1) by omega) (Nat.le_trans (Nat.le_of_ble_eq_true rfl) (show 100 ≤ 100 * (d + 1) by omega)) ⟨Nat.le_refl _, Nat.le_refl _⟩ ?_
    generalize hg : (if f < 0 then (0 : Int32) else f) = g
    have g0 : 0 ≤ g.toInt := by
      rw [← hg]
      split
      · decide
      · rename_i z
        have := q_nlt z
        have o : (0 : Int32).toInt = 0 := rfl
        omega
    refine aw_istore_n (i := 2) rfl [(0, .ref (2000 + i)), (1, .int c), (2, .int g), (3, .int t)] d_J1_indexOf_4cfef_14 (Nat.le_of_ble_eq_true rfl) rfl rfl ?_
    refine aw_iload_n (i := 3) rfl d_J1_indexOf_4cfef_15 3 rfl ?_
    refine aw_aload_n (i := 0) rfl d_J1_indexOf_4cfef_16 0 rfl ?_
    refine aw_tlen hi d_J1_indexOf_4cfef_17 ?_
    refine aw_mmin d_J1_indexOf_4cfef_18 tw_791 (show 1 ≤ (d + 1) by omega) (Nat.le_trans (Nat.le_of_ble_eq_true rfl) (show 100 ≤ 100 * (d + 1) by omega)) ⟨Nat.le_refl _, Nat.le_refl _⟩ ?_
    generalize hg2 : (if Int32.ofNat (tln i) < t then Int32.ofNat (tln i) else t) = u
    have en : (Int32.ofNat (tln i)).toInt = (tln i : Int) := Int32.toInt_ofNat_of_lt (by omega)
    have u0 : u.toInt ≤ (tln i : Int) := by
      rw [← hg2]
      split
      · omega
      · rename_i z
        have := q_nlt z
        omega
    refine aw_istore_n (i := 3) rfl [(0, .ref (2000 + i)), (1, .int c), (2, .int g), (3, .int u)] d_J1_indexOf_4cfef_21 (Nat.le_of_ble_eq_true rfl) rfl rfl ?_
    refine aw_iload_n (i := 2) rfl d_J1_indexOf_4cfef_22 2 rfl ?_
    refine aw_iload_n (i := 3) rfl d_J1_indexOf_4cfef_23 3 rfl ?_
    refine aw_icmp_lt (tgt := 29) d_J1_indexOf_4cfef_24 rfl (fun _ => ?_) (fun _ => ?_)
    · refine aw_aload_n (i := 0) rfl d_J1_indexOf_4cfef_29 0 rfl ?_
      refine aw_iload_n (i := 1) rfl d_J1_indexOf_4cfef_30 1 rfl ?_
      refine aw_iload_n (i := 2) rfl d_J1_indexOf_4cfef_31 2 rfl ?_
      refine aw_iload_n (i := 3) rfl d_J1_indexOf_4cfef_32 3 rfl ?_
      refine aw_Si [.ref (2000 + i), .int c, .int g, .int u] [] d_J1_indexOf_4cfef_33 (cS_J1_indexOfChar_4cfef (d + 0) 0 0) tw_792 rfl (rr0 (Nat.le_of_ble_eq_true rfl) (Nat.le_of_ble_eq_true rfl)) (Nat.le_of_ble_eq_true rfl) xs0 (c_ixChar d i hi h c g u g0 u0) (fun r h1 kk => ?_)
      exact aw_iret rfl d_J1_indexOf_4cfef_36 ⟨Nat.le_refl _, Nat.le_refl _⟩ ⟨_, rfl, kk⟩
    · refine aw_iconst (v := -1) d_J1_indexOf_4cfef_27 ic_m1 ?_
      exact aw_iret rfl d_J1_indexOf_4cfef_28 ⟨Nat.le_refl _, Nat.le_refl _⟩ ⟨_, rfl, ⟨by decide, by decide⟩, rfl⟩
  · refine aw_iconst (v := -1) d_J1_indexOf_4cfef_7 ic_m1 ?_
    exact aw_iret rfl d_J1_indexOf_4cfef_8 ⟨Nat.le_refl _, Nat.le_refl _⟩ ⟨_, rfl, ⟨by decide, by decide⟩, rfl⟩
theorem c_ix2 (d i : Nat) (hi : i < 4) (h : Hp_) (c f : Int32) : Ci (m_J0_indexOf_7cf53 (d + 2) 0 0) [.ref (1000 + i), .int c, .int f] h (fun r h' => rin r.toInt (-1, 8) ∧ h' = h) := by
  refine Ct.of (fun _ _ _ => trivial) rfl (Nat.le_of_ble_eq_true rfl) ?_
  show AW (m_J0_indexOf_7cf53 (d + 2) 0 0) 0 0 0 [(0, .ref (1000 + i)), (1, .int c), (2, .int f)] [] h (kI _)
  refine aw_aload_n (i := 0) rfl d_J0_indexOf_7cf53_0 0 rfl ?_
  refine aw_Ti [] [] hi d_J0_indexOf_7cf53_1 rfl (cV_J0_isLatin1_aae02 (d + 0) 0 0) tw_768 rfl (rr0 (Nat.le_of_ble_eq_true rfl) (Nat.le_of_ble_eq_true rfl)) (Nat.le_of_ble_eq_true rfl) xs0 (c_isLatin1 d i hi h) (fun r h1 kk => ?_)
  obtain ⟨e1, e2⟩ := kk
  rw [e2, e1]
  refine aw_if_eq (tgt := 23) d_J0_indexOf_7cf53_4 rfl (fun c => absurd c (by decide)) (fun _ => ?_)
  refine aw_aload_n (i := 0) rfl d_J0_indexOf_7cf53_7 0 rfl ?_
  refine aw_tval hi tw_2711 d_J0_indexOf_7cf53_8 ?_
  refine aw_iload_n (i := 1) rfl d_J0_indexOf_7cf53_11 1 rfl ?_
  refine aw_iload_n (i := 2) rfl d_J0_indexOf_7cf53_12 2 rfl ?_
  refine aw_aload_n (i := 0) rfl d_J0_indexOf_7cf53_13 0 rfl ?_
  refine aw_Ti [] [.int f, .int c, .ref (2000 + i)] hi d_J0_indexOf_7cf53_14 rfl (cV_J0_length_8abf5 (d + 1) 0 0) tw_774 rfl (rr0 (Nat.le_of_ble_eq_true rfl) (Nat.le_of_ble_eq_true rfl)) (Nat.le_of_ble_eq_true rfl) xs0 (c_length d i hi h) (fun t h1 kk => ?_)
  rw [kk.2]
  refine aw_Si [.ref (2000 + i), .int c, .int f, .int t] [] d_J0_indexOf_7cf53_17 (cS_J1_indexOf_4cfef (d + 1) 0 0) tw_782 rfl (rr0 (Nat.le_of_ble_eq_true rfl) (Nat.le_of_ble_eq_true rfl)) (Nat.le_of_ble_eq_true rfl) xs0 (c_ixLatin d i hi h c f t) (fun r h1 kk => ?_)
  refine aw_goto (tgt := 36) d_J0_indexOf_7cf53_20 rfl ?_
  exact aw_iret rfl d_J0_indexOf_7cf53_36 ⟨Nat.le_refl _, Nat.le_refl _⟩ ⟨_, rfl, kk⟩
theorem c_ix1 (d i : Nat) (hi : i < 4) (h : Hp_) (c : Int32) : Ci (m_J0_indexOf_0f7a4 (d + 3) 0 0) [.ref (1000 + i), .int c] h (fun r h' => rin r.toInt (-1, 8) ∧ h' = h) := by
  refine Ct.of (fun _ _ _ => trivial) rfl (Nat.le_of_ble_eq_true rfl) ?_
  show AW (m_J0_indexOf_0f7a4 (d + 3) 0 0) 0 0 0 [(0, .ref (1000 + i)), (1, .int c)] [] h (kI _)
  refine aw_aload_n (i := 0) rfl d_J0_indexOf_0f7a4_0 0 rfl ?_
  refine aw_iload_n (i := 1) rfl d_J0_indexOf_0f7a4_1 1 rfl ?_
  refine aw_iconst (v := 0) d_J0_indexOf_0f7a4_2 ic_0 ?_
  refine aw_Ti [.int c, .int 0] [] hi d_J0_indexOf_0f7a4_3 rfl (cV_J0_indexOf_7cf53 (d + 2) 0 0) tw_764 rfl (rr0 (Nat.le_of_ble_eq_true rfl) (Nat.le_of_ble_eq_true rfl)) (Nat.le_of_ble_eq_true rfl) xs0 (c_ix2 d i hi h c 0) (fun r h1 kk => ?_)
  exact aw_iret rfl d_J0_indexOf_0f7a4_6 ⟨Nat.le_refl _, Nat.le_refl _⟩ ⟨_, rfl, kk⟩
end
section
/-! indexOf as a step of the check; charAt of the reference's letters -/
def x_ix (n : Nat) : Fx := fun a => match a.2.1 with
  | .inl _ :: .inr 4 :: st => bif Nat.ble ((st.map ac).sum) 8 then some [(n, a.1, avi (-1, 8) :: st, a.2.2)] else none
  | _ => none
theorem z_ix {ws : List Nat} {h0 : Hp_} {M : Mc_} {K : Option Value → Hp_ → Prop} {pc : Nat} {idx d N : Nat} (hN : d + 3 = N) (hd : decode (mC M) pc = .ok (.invokevirtual idx, 3)) (hlk : Cond.methodLink (mY M).cls idx ⟨"java/lang/String", "indexOf", "(I)I"⟩ ∈ lw_g) (hz : rz_ (m_J0_indexOf_0f7a4 N 0 0) M) {nx : Nat} (hnx : pc + 3 = nx) : Sd ws h0 M K pc (x_ix nx) := by
  subst hN hnx
  intro g a out e lv st h G kx
  obtain ⟨la, sa, hf⟩ := a
  unfold x_ix at e
  split at e
  · rename_i p0 sa' q
    have q : sa = .inl p0 :: .inr 4 :: sa' := q
    subst q
    cases z : Nat.ble ((sa'.map ac).sum) 8 with
    | false => rw [z] at e; cases e
    | true =>
      rw [z] at e
      have e := (Option.some.inj e).symm
      subst e
      obtain ⟨v, w, t, es, ⟨x, ex, _⟩, _, ⟨i, hi, ew⟩, _, m⟩ := sm2 G.2.1
      subst es ex ew
      refine aw_Ti [.int x] t hi hd rfl (cV_J0_indexOf_0f7a4 (d + 3) 0 0) hlk rfl ⟨hz.1, Nat.zero_le _, Nat.zero_le _⟩ (by rw [sm_cat m]; exact Nat.ble_eq.mp z) hz.2.2.2 (c_ix1 d i hi h x) (fun r h1 kk => ?_)
      obtain ⟨k1, k2⟩ := kk
      subst k2
      exact kx _ List.mem_cons_self _ _ _ ⟨G.1, ⟨bm_i k1 _, sl_0, m⟩, G.2.2⟩
  · cases e
theorem c_preIndex (d : Nat) (h : Hp_) (x n : Int32) (w : Value) (hw : w = .null ∨ w = .ref 2100) (h0 : ¬ x < 0) (h1 : x < n) : Ci (m_J3_checkIndex_8e157 (d + 0) 0 0) [.int x, .int n, w] h (fun _ h' => h' = h) := by
  refine Ct.of (fun _ _ _ => trivial) rfl (by rcases hw with z | z <;> subst z <;> exact Nat.le_of_ble_eq_true rfl) ?_
  show AW (m_J3_checkIndex_8e157 (d + 0) 0 0) 0 0 0 [(0, .int x), (1, .int n), (2, w)] [] h (kI _)
  refine aw_iload_n (i := 0) rfl d_J3_checkIndex_8e157_0 0 rfl ?_
  refine aw_if_lt (tgt := 9) d_J3_checkIndex_8e157_1 rfl (fun z => absurd z h0) (fun _ => ?_)
  refine aw_iload_n (i := 0) rfl d_J3_checkIndex_8e157_4 0 rfl ?_
  refine aw_iload_n (i := 1) rfl d_J3_checkIndex_8e157_5 1 rfl ?_
  refine aw_icmp_lt (tgt := 16) d_J3_checkIndex_8e157_6 rfl (fun _ => ?_) (fun z => absurd h1 z)
  refine aw_iload_n (i := 0) rfl d_J3_checkIndex_8e157_16 0 rfl ?_
  exact aw_iret rfl d_J3_checkIndex_8e157_17 ⟨Nat.le_refl _, Nat.le_refl _⟩ ⟨_, rfl, rfl⟩
theorem c_strIndex (d : Nat) (h : Hp_) (x n : Int32) (h0 : ¬ x < 0) (h1 : x < n) : Cv (m_J0_checkIndex_df160 (d + 1) 0 0) [.int x, .int n] h (fun h' => h' = h) := by
  refine Ct.of (fun _ _ _ => trivial) rfl (Nat.le_of_ble_eq_true rfl) ?_
  show AW (m_J0_checkIndex_df160 (d + 1) 0 0) 0 0 0 [(0, .int x), (1, .int n)] [] h (kV _)
  have go : ∀ w : Value, (w = .null ∨ w = .ref 2100) → AW (m_J0_checkIndex_df160 (d + 1) 0 0) 0 0 5 [(0, .int x), (1, .int n)] [w, .int n, .int x] h (kV (fun h' => h' = h)) := by
    intro w hw
    refine aw_Si [.int x, .int n, w] [] d_J0_checkIndex_df160_5 (cS_J3_checkIndex_8e157 (d + 0) 0 0) tw_2414 rfl (rr0 (Nat.le_of_ble_eq_true rfl) (Nat.le_of_ble_eq_true rfl)) (Nat.le_of_ble_eq_true rfl) xs0 (c_preIndex d h x n w hw h0 h1) (fun r h1 kk => ?_)
    rw [kk]
    refine aw_pop d_J0_checkIndex_df160_8 rfl ?_
    exact aw_vret rfl d_J0_checkIndex_df160_9 ⟨Nat.le_refl _, Nat.le_refl _⟩ ⟨rfl, rfl⟩
  refine aw_iload_n (i := 0) rfl d_J0_checkIndex_df160_0 0 rfl ?_
  refine aw_iload_n (i := 1) rfl d_J0_checkIndex_df160_1 1 rfl ?_
  exact aw_tfmt tw_813 d_J0_checkIndex_df160_2 (go _ (Or.inl rfl)) (go _ (Or.inr rfl))
theorem ch_all : (List.range 9).all (fun j => decide (((((tby 1).getD (Int32.ofNat j).toNatClampNeg 0 &&& 255).toUInt32 % 65536).toInt32 = (tby 1).getD j 0) ∧ ¬ Int32.ofNat j < 0 ∧ Int32.ofNat j < Int32.ofNat (tln 1) ∧ 0 ≤ (Int32.ofNat j).toInt ∧ (Int32.ofNat j).toInt < (tln 1 : Int) ∧ 0 ≤ ((tby 1).getD j 0).toInt ∧ ((tby 1).getD j 0).toInt ≤ 127)) = true := by decide +kernel
theorem ch_at {j : Nat} (hj : j < 9) : (((tby 1).getD (Int32.ofNat j).toNatClampNeg 0 &&& 255).toUInt32 % 65536).toInt32 = (tby 1).getD j 0 ∧ ¬ Int32.ofNat j < 0 ∧ Int32.ofNat j < Int32.ofNat (tln 1) ∧ 0 ≤ (Int32.ofNat j).toInt ∧ (Int32.ofNat j).toInt < (tln 1 : Int) ∧ 0 ≤ ((tby 1).getD j 0).toInt ∧ ((tby 1).getD j 0).toInt ≤ 127 :=
  of_decide_eq_true (List.all_eq_true.mp ch_all j (List.mem_range.mpr hj))
theorem ch_nar {j : Nat} (hj : j < 9) : narrow .char (.int ((tby 1).getD j 0)) = .int ((tby 1).getD j 0) := by
  match j, hj with
  | 0, _ => rfl
  | 1, _ => rfl
  | 2, _ => rfl
  | 3, _ => rfl
  | 4, _ => rfl
  | 5, _ => rfl
  | 6, _ => rfl
  | 7, _ => rfl
  | 8, _ => rfl
  | j + 9, h => exact absurd h (by omega)
theorem c_latAt (d j : Nat) (hj : j < 9) (h : Hp_) : Ci (m_J1_charAt_3b067 (d + 2) 0 0) [.ref 2001, .int (Int32.ofNat j)] h (fun r h' => r = (tby 1).getD j 0 ∧ h' = h) := by
  obtain ⟨z1, z2, z3, z4, z5, _⟩ := ch_at hj
  refine Ct.of (fun _ _ _ => trivial) rfl (Nat.le_of_ble_eq_true rfl) ?_
  show AW (m_J1_charAt_3b067 (d + 2) 0 0) 0 0 0 [(0, .ref 2001), (1, .int (Int32.ofNat j))] [] h (kI _)
  refine aw_iload_n (i := 1) rfl d_J1_charAt_3b067_0 1 rfl ?_
  refine aw_aload_n (i := 0) rfl d_J1_charAt_3b067_1 0 rfl ?_
  refine aw_tlen (i := 1) (by decide) d_J1_charAt_3b067_2 ?_
  refine aw_Sv [.int (Int32.ofNat j), .int (Int32.ofNat (tln 1))] [] d_J1_charAt_3b067_3 (cS_J0_checkIndex_df160 (d + 1) 0 0) tw_2411 rfl (rr0 (Nat.le_of_ble_eq_true rfl) (Nat.le_of_ble_eq_true rfl)) (Nat.le_of_ble_eq_true rfl) xs0 (c_strIndex d h _ _ z2 z3) (fun h1 kk => ?_)
  rw [kk]
  refine aw_aload_n (i := 0) rfl d_J1_charAt_3b067_6 0 rfl ?_
  refine aw_iload_n (i := 1) rfl d_J1_charAt_3b067_7 1 rfl ?_
  refine aw_tb (i := 1) (by decide) (vp_tln z4 z5) d_J1_charAt_3b067_8 ?_
  refine aw_sipush (v := 255) d_J1_charAt_3b067_9 (by decide) ?_
  refine aw_iand d_J1_charAt_3b067_12 ?_
  refine aw_i2c d_J1_charAt_3b067_13 ?_
  rw [z1]
  exact aw_zret rfl (ch_nar hj) d_J1_charAt_3b067_14 ⟨Nat.le_refl _, Nat.le_refl _⟩ ⟨_, rfl, rfl, rfl⟩
theorem c_charAt (d j : Nat) (hj : j < 9) (h : Hp_) : Ci (m_J0_charAt_5068e (d + 3) 0 0) [.ref 1001, .int (Int32.ofNat j)] h (fun r h' => r = (tby 1).getD j 0 ∧ h' = h) := by
  refine Ct.of (fun _ _ _ => trivial) rfl (Nat.le_of_ble_eq_true rfl) ?_
  show AW (m_J0_charAt_5068e (d + 3) 0 0) 0 0 0 [(0, .ref 1001), (1, .int (Int32.ofNat j))] [] h (kI _)
  refine aw_aload_n (i := 0) rfl d_J0_charAt_5068e_0 0 rfl ?_
  refine aw_Ti (i := 1) [] [] (by decide) d_J0_charAt_5068e_1 rfl (cV_J0_isLatin1_aae02 (d + 2) 0 0) tw_768 rfl (rr0 (Nat.le_of_ble_eq_true rfl) (Nat.le_of_ble_eq_true rfl)) (Nat.le_of_ble_eq_true rfl) xs0 (c_isLatin1 (d + 2) 1 (by decide) h) (fun r h1 kk => ?_)
  obtain ⟨e1, e2⟩ := kk
  rw [e2, e1]
  refine aw_if_eq (tgt := 16) d_J0_charAt_5068e_4 rfl (fun c => absurd c (by decide)) (fun _ => ?_)
  refine aw_aload_n (i := 0) rfl d_J0_charAt_5068e_7 0 rfl ?_
  refine aw_tval (i := 1) (by decide) tw_2711 d_J0_charAt_5068e_8 ?_
  refine aw_iload_n (i := 1) rfl d_J0_charAt_5068e_11 1 rfl ?_
  refine aw_Si [.ref 2001, .int (Int32.ofNat j)] [] d_J0_charAt_5068e_12 (cS_J1_charAt_3b067 (d + 2) 0 0) tw_2408 rfl (rr0 (Nat.le_of_ble_eq_true rfl) (Nat.le_of_ble_eq_true rfl)) (Nat.le_of_ble_eq_true rfl) xs0 (c_latAt d j hj h) (fun r h1 kk => ?_)
  obtain ⟨e3, e4⟩ := kk
  rw [e3]
  exact aw_zret rfl (ch_nar hj) d_J0_charAt_5068e_15 ⟨Nat.le_refl _, Nat.le_refl _⟩ ⟨_, rfl, rfl, e4⟩
section TXW
variable {M : Mc_} {kc ks pc : Nat} {lv : List (Nat × Value)} {st : List Value} {h : Hp_} {K : Option Value → Hp_ → Prop}
theorem aw_ldcwT {row n i q : Nat} {tx : String} (hd : decode (mC M) pc = .ok (.ldc_w i, 3)) (hr : h_strs[row]? = some ((mY M).cls, i, tx, n)) (hq : 1000 + n = q) (k : AW M kc ks (pc + 3) lv (.ref q :: st) h K) : AW M kc ks pc lv st h K := by
  intro l p e s m args below meth c dC dI cy A ad0 adV ad dom0 dom H locs ls hf hX hT hE hW hS hl ho hs
  subst hq
  have hZ := hT.2 _ (List.mem_of_getElem? hr)
  intro T hT0 X
  obtain ⟨t, a1, b1⟩ := k l p e s m args below meth c dC dI cy A ad0 adV ad dom0 dom H locs ls hf hX hT hE hW hS hl ho (ok_c (fun z w => by cases w; exact Or.inr (Nat.le_add_right _ _)) hs) T hT0 X
  exact ⟨t, X.ldcStringW hf.1 hf.2.2.2.2.2.1 (text := tx) (a := ad (1000 + n)) hZ.1 hZ.2 (g := F0 m pc ls (st.map (h_cv ad))) rfl (by rw [hf.2.1]; exact hd) t a1, b1⟩
theorem z_ldcwT {ws : List Nat} {h0 : Hp_} {row n i : Nat} {tx : String} (hd : decode (mC M) pc = .ok (.ldc_w i, 3)) (hr : h_strs[row]? = some ((mY M).cls, i, tx, n)) (hn : n < 4) {nx : Nat} (hnx : pc + 3 = nx) : Sd ws h0 M K pc (x_pushR 4 nx) := by
  subst hnx
  exact sd_pushR (.ref (1000 + n)) (fun _ => ⟨n, hn, rfl⟩) (fun _ _ _ k => aw_ldcwT hd hr rfl k)
end TXW
theorem c_letterFor (d j : Nat) (hj : j < 9) (h : Hp_) : Ci (m_X12_letterFor (d + 4) 0 0) [.int (Int32.ofNat j)] h (fun r h' => r = (tby 1).getD j 0 ∧ h' = h) := by
  refine Ct.of (fun _ _ _ => trivial) rfl (Nat.le_of_ble_eq_true rfl) ?_
  show AW (m_X12_letterFor (d + 4) 0 0) 0 0 0 [(0, .int (Int32.ofNat j))] [] h (kI _)
  refine aw_ldcwT (row := 5) d_X12_letterFor_0 rfl rfl ?_
  refine aw_iload_n (i := 0) rfl d_X12_letterFor_3 0 rfl ?_
  refine aw_Ti (i := 1) [.int (Int32.ofNat j)] [] (by decide) d_X12_letterFor_4 rfl (cV_J0_charAt_5068e (d + 3) 0 0) tw_2404 rfl (rr0 (Nat.le_of_ble_eq_true rfl) (Nat.le_of_ble_eq_true rfl)) (Nat.le_of_ble_eq_true rfl) xs0 (c_charAt d j hj h) (fun r h1 kk => ?_)
  exact aw_iret rfl d_X12_letterFor_7 ⟨Nat.le_refl _, Nat.le_refl _⟩ ⟨_, rfl, kk⟩
def wz_X12_letterFor : List Nat := []
def q_X12_letterFor : Ctr := ([.inl ((0, 8), (0, 0), none)], [], (some (.inl ((0, 127), (0, 0), none))), [], wz_X12_letterFor)
theorem of_nat32 {x : Int32} (h0 : 0 ≤ x.toInt) : Int32.ofNat x.toNatClampNeg = x := by
  refine Int32.toInt_inj.mp ?_
  have b := Int32.toInt_le x
  have b : x.toInt ≤ 2147483647 := b
  have e : (x.toNatClampNeg : Int) = x.toInt := by show ((x.toInt.toNat : Nat) : Int) = _; omega
  rw [Int32.toInt_ofNat_of_lt (by omega)]
  exact e
theorem hc_X12_letterFor (n : Nat) : Hc (m_X12_letterFor (n + 4) 0 0) q_X12_letterFor := by
  intro vs h ma I hp
  match vs, ma with
  | [v0], ma =>
    obtain ⟨⟨x, e0, b, _⟩, _⟩ := ma
    subst e0
    have b0 : 0 ≤ x.toInt := b.1
    have b1 : x.toInt ≤ 8 := b.2
    have e : (x.toNatClampNeg : Int) = x.toInt := by show ((x.toInt.toNat : Nat) : Int) = _; omega
    have hj : x.toNatClampNeg < 9 := by omega
    have c := c_letterFor n x.toNatClampNeg hj h
    rw [of_nat32 b0] at c
    refine Ct.mono c (fun v h' q => ?_)
    obtain ⟨r, ev, er, eh⟩ := q
    subst ev eh
    refine ⟨I, Fr.rf _ _, fun _ z => (nomatch z), _, rfl, r, rfl, ?_, fun _ z => (nomatch z)⟩
    rw [er]
    exact (ch_at hj).2.2.2.2.2
end
section
/-! trees of methods that are done by hand -/
theorem t_X6_costWith (d : Nat) (h : Hp_) (w : Wf h) (x1 : Int32) (x2 : Int32) (x3 : Int32) (K : Int32 → Hp_ → Prop) (k : vp_in ((x1 * 4) + x2) 48 ∧ ((((x3 >>> ((2 * x2) &&& 31)) &&& 3) = 0 → K 1000000000 h) ∧ (¬ ((x3 >>> ((2 * x2) &&& 31)) &&& 3) = 0 → (¬ (h_i h 101 (((x1 * 4) + x2) : Int32).toNatClampNeg) = (-1) → vp_in ((((x1 + 1) * 256) + x3) - ((1 : Int32) <<< ((2 * x2) &&& 31))) 3328 ∧ (K (if ((h_i h 101 (((x1 * 4) + x2) : Int32).toNatClampNeg) + (h_i h 102 (((((x1 + 1) * 256) + x3) - ((1 : Int32) <<< ((2 * x2) &&& 31))) : Int32).toNatClampNeg)) < 1000000000 then ((h_i h 101 (((x1 * 4) + x2) : Int32).toNatClampNeg) + (h_i h 102 (((((x1 + 1) * 256) + x3) - ((1 : Int32) <<< ((2 * x2) &&& 31))) : Int32).toNatClampNeg)) else 1000000000) h)) ∧ ((h_i h 101 (((x1 * 4) + x2) : Int32).toNatClampNeg) = (-1) → K 1000000000 h)))) : Ci (m_X6_costWith (d + 1) 0 0) [.ref 20, .int x1, .int x2, .int x3] h K := by
  refine Ct.of (fun _ _ _ => trivial) rfl (Nat.le_of_ble_eq_true rfl) ?_
  show AW (m_X6_costWith (d + 1) 0 0) 0 0 0 [(0, .ref 20), (1, .int x1), (2, .int x2), (3, .int x3)] [] h (kI K)
  refine aw_aload_n (i := 0) rfl d_X6_costWith_0 0 rfl ?_
  refine aw_getr (k0 := 17) kc_6 (ws_20 w) (Nat.le_of_ble_eq_true rfl) tw_382 d_X6_costWith_1 rfl (wr_20_17 w) ?_
  refine aw_iload_n (i := 1) rfl d_X6_costWith_4 1 rfl ?_
  refine aw_iconst (v := 4) d_X6_costWith_5 ic_4 ?_
  refine aw_imul d_X6_costWith_6 ?_
  refine aw_iload_n (i := 2) rfl d_X6_costWith_7 2 rfl ?_
  refine aw_iadd d_X6_costWith_8 ?_
  obtain ⟨b1, k⟩ := k
  refine aw_iald (ws_101 w) b1 d_X6_costWith_9 ?_
  refine aw_istore [(0, .ref 20), (1, .int x1), (2, .int x2), (3, .int x3), (4, .int (h_i h 101 (((x1 * 4) + x2) : Int32).toNatClampNeg))] d_X6_costWith_10 (Nat.le_of_ble_eq_true rfl) rfl rfl ?_
  refine aw_iload_n (i := 3) rfl d_X6_costWith_12 3 rfl ?_
  refine aw_iconst (v := 2) d_X6_costWith_13 ic_2 ?_
  refine aw_iload_n (i := 2) rfl d_X6_costWith_14 2 rfl ?_
  refine aw_imul d_X6_costWith_15 ?_
  refine aw_ishr d_X6_costWith_16 ?_
  refine aw_iconst (v := 3) d_X6_costWith_17 ic_3 ?_
  refine aw_iand d_X6_costWith_18 ?_
  refine aw_if_eq (tgt := 28) d_X6_costWith_19 rfl (fun c2 => ?_) (fun c2 => ?_)
  · have k := k.1 c2
    refine aw_ldc (v := 1000000000) d_X6_costWith_28 tw_1524 ?_
    exact aw_iret rfl d_X6_costWith_30 ⟨Nat.le_refl _, Nat.le_refl _⟩ ⟨_, rfl, k⟩
  · have k := k.2 c2
    refine aw_iload d_X6_costWith_22 4 rfl ?_
    refine aw_iconst (v := (-1)) d_X6_costWith_24 ic_m1 ?_
    refine aw_icmp_ne (tgt := 31) d_X6_costWith_25 rfl (fun c3 => ?_) (fun c3 => ?_)
    · have k := k.1 c3
      refine aw_ldc (v := 1000000000) d_X6_costWith_31 tw_1524 ?_
      refine aw_iload d_X6_costWith_33 4 rfl ?_
      refine aw_aload_n (i := 0) rfl d_X6_costWith_35 0 rfl ?_
      refine aw_getr (k0 := 18) kc_6 (ws_20 w) (Nat.le_of_ble_eq_true rfl) tw_383 d_X6_costWith_36 rfl (wr_20_18 w) ?_
      refine aw_iload_n (i := 1) rfl d_X6_costWith_39 1 rfl ?_
      refine aw_iconst (v := 1) d_X6_costWith_40 ic_1 ?_
      refine aw_iadd d_X6_costWith_41 ?_
      refine aw_sipush (v := 256) d_X6_costWith_42 is_256 ?_
      refine aw_imul d_X6_costWith_45 ?_
      refine aw_iload_n (i := 3) rfl d_X6_costWith_46 3 rfl ?_
      refine aw_iadd d_X6_costWith_47 ?_
      refine aw_iconst (v := 1) d_X6_costWith_48 ic_1 ?_
      refine aw_iconst (v := 2) d_X6_costWith_49 ic_2 ?_
      refine aw_iload_n (i := 2) rfl d_X6_costWith_50 2 rfl ?_
      refine aw_imul d_X6_costWith_51 ?_
      refine aw_ishl d_X6_costWith_52 ?_
      refine aw_isub d_X6_costWith_53 ?_
      obtain ⟨b4, k⟩ := k
      refine aw_iald (ws_102 w) b4 d_X6_costWith_54 ?_
      refine aw_iadd d_X6_costWith_55 ?_
      refine aw_mmin d_X6_costWith_56 tw_1468 (show 1 ≤ (d + 1) by omega) (Nat.le_trans (Nat.le_of_ble_eq_true rfl) (show 100 ≤ 100 * (d + 1) by omega)) ⟨Nat.le_refl _, Nat.le_refl _⟩ ?_
      exact aw_iret rfl d_X6_costWith_59 ⟨Nat.le_refl _, Nat.le_refl _⟩ ⟨_, rfl, k⟩
    · have k := k.2 c3
      refine aw_ldc (v := 1000000000) d_X6_costWith_28 tw_1524 ?_
      exact aw_iret rfl d_X6_costWith_30 ⟨Nat.le_refl _, Nat.le_refl _⟩ ⟨_, rfl, k⟩
theorem t_X6_traceLending (d : Nat) (h : Hp_) (x1 : Int32) (x2 : Int32) (K : Hp_ → Prop) (k : AW (m_X6_traceLending (d + 2) 0 0) 0 0 5 [(0, .ref 20), (1, .int x1), (3, .int x2), (4, .int 0)] [] h (kV K)) : Cv (m_X6_traceLending (d + 2) 0 0) [.ref 20, .int x1, .int x2] h K := by
  refine Ct.of (fun _ _ _ => trivial) rfl (Nat.le_of_ble_eq_true rfl) ?_
  show AW (m_X6_traceLending (d + 2) 0 0) 0 0 0 [(0, .ref 20), (1, .int x1), (2, .int x2)] [] h (kV K)
  refine aw_iload_n (i := 2) rfl d_X6_traceLending_0 2 rfl ?_
  refine aw_istore_n (i := 3) rfl [(0, .ref 20), (1, .int x1), (2, .int x2), (3, .int x2)] d_X6_traceLending_1 (Nat.le_of_ble_eq_true rfl) rfl rfl ?_
  refine aw_iconst (v := 0) d_X6_traceLending_2 ic_0 ?_
  refine aw_istore [(0, .ref 20), (1, .int x1), (2, .int x2), (3, .int x2), (4, .int 0)] d_X6_traceLending_3 (Nat.le_of_ble_eq_true rfl) rfl rfl ?_
  exact aw_lvp [0, 1, 3, 4] [(0, .ref 20), (1, .int x1), (3, .int x2), (4, .int 0)] rfl k
theorem t_X6_traceLending_5 (d : Nat) (h : Hp_) (w : Wf h) (x1 : Int32) (x3 : Int32) (x4 : Int32) (K : Hp_ → Prop) (k : (x1 ≤ x4 → K h) ∧ (¬ x1 ≤ x4 → vp_in x4 12 ∧ (AW (m_X6_traceLending (d + 2) 0 0) 0 0 22 [(0, .ref 20), (1, .int x1), (3, .int x3), (4, .int x4), (5, .int 0)] [] (h_im h 103 x4.toNatClampNeg (-1)) (kV K)))) : AW (m_X6_traceLending (d + 2) 0 0) 0 0 5 [(0, .ref 20), (1, .int x1), (3, .int x3), (4, .int x4)] [] h (kV K) := by
  refine aw_iload d_X6_traceLending_5 3 rfl ?_
  refine aw_iload_n (i := 1) rfl d_X6_traceLending_7 1 rfl ?_
  refine aw_icmp_ge (tgt := 124) d_X6_traceLending_8 rfl (fun c1 => ?_) (fun c1 => ?_)
  · have k := k.1 c1
    exact aw_vret rfl d_X6_traceLending_124 ⟨Nat.le_refl _, Nat.le_refl _⟩ ⟨rfl, k⟩
  · have k := k.2 c1
    refine aw_aload_n (i := 0) rfl d_X6_traceLending_11 0 rfl ?_
    refine aw_getr (k0 := 19) kc_6 (ws_20 w) (Nat.le_of_ble_eq_true rfl) tw_384 d_X6_traceLending_12 rfl (wr_20_19 w) ?_
    refine aw_iload d_X6_traceLending_15 3 rfl ?_
    refine aw_iconst (v := (-1)) d_X6_traceLending_17 ic_m1 ?_
    obtain ⟨b2, k⟩ := k
    refine aw_iast (ws_103 w) b2 d_X6_traceLending_18 ?_
    refine aw_iconst (v := 0) d_X6_traceLending_19 ic_0 ?_
    refine aw_istore [(0, .ref 20), (1, .int x1), (3, .int x3), (4, .int x4), (5, .int 0)] d_X6_traceLending_20 (Nat.le_of_ble_eq_true rfl) rfl rfl ?_
    exact k
theorem t_X6_traceLending_22 (d : Nat) (h : Hp_) (w : Wf h) (x1 : Int32) (x3 : Int32) (x4 : Int32) (x5 : Int32) (K : Hp_ → Prop) (k : ((h_i h 20 16) ≤ x5 → vp_in x4 12 ∧ (((h_i h 103 x4.toNatClampNeg) = (-1) → AW (m_X6_traceLending (d + 2) 0 0) 0 0 5 [(0, .ref 20), (1, .int x1), (3, .int x3), (4, .int (x4 + 1))] [] h (kV K)) ∧ (¬ (h_i h 103 x4.toNatClampNeg) = (-1) → vp_in x4 12 ∧ (AW (m_X6_traceLending (d + 2) 0 0) 0 0 5 [(0, .ref 20), (1, .int x1), (3, .int (x3 - ((1 : Int32) <<< ((2 * (h_i h 103 x4.toNatClampNeg)) &&& 31)))), (4, .int (x4 + 1))] [] h (kV K))))) ∧ (¬ (h_i h 20 16) ≤ x5 → vp_in x4 12 ∧ ((¬ (h_i h 103 x4.toNatClampNeg) = (-1) → vp_in x4 12 ∧ (((h_i h 103 x4.toNatClampNeg) = (-1) → AW (m_X6_traceLending (d + 2) 0 0) 0 0 5 [(0, .ref 20), (1, .int x1), (3, .int x3), (4, .int (x4 + 1))] [] h (kV K)) ∧ (¬ (h_i h 103 x4.toNatClampNeg) = (-1) → vp_in x4 12 ∧ (AW (m_X6_traceLending (d + 2) 0 0) 0 0 5 [(0, .ref 20), (1, .int x1), (3, .int (x3 - ((1 : Int32) <<< ((2 * (h_i h 103 x4.toNatClampNeg)) &&& 31)))), (4, .int (x4 + 1))] [] h (kV K))))) ∧ ((h_i h 103 x4.toNatClampNeg) = (-1) → Ci (m_X6_costWith (d + 1) 0 0) [.ref 20, .int x4, .int x5, .int x3] h (fun r14 h12 => Wf h12 ∧ ((1000000000 ≤ r14 → AW (m_X6_traceLending (d + 2) 0 0) 0 0 22 [(0, .ref 20), (1, .int x1), (3, .int x3), (4, .int x4), (5, .int (x5 + 1))] [] h12 (kV K)) ∧ (¬ 1000000000 ≤ r14 → vp_in ((x4 * 256) + x3) 3328 ∧ ((¬ r14 = (h_i h12 102 (((x4 * 256) + x3) : Int32).toNatClampNeg) → AW (m_X6_traceLending (d + 2) 0 0) 0 0 22 [(0, .ref 20), (1, .int x1), (3, .int x3), (4, .int x4), (5, .int (x5 + 1))] [] h12 (kV K)) ∧ (r14 = (h_i h12 102 (((x4 * 256) + x3) : Int32).toNatClampNeg) → vp_in x4 12 ∧ (AW (m_X6_traceLending (d + 2) 0 0) 0 0 22 [(0, .ref 20), (1, .int x1), (3, .int x3), (4, .int x4), (5, .int (x5 + 1))] [] (h_im h12 103 x4.toNatClampNeg x5) (kV K))))))))))) : AW (m_X6_traceLending (d + 2) 0 0) 0 0 22 [(0, .ref 20), (1, .int x1), (3, .int x3), (4, .int x4), (5, .int x5)] [] h (kV K) := by
  refine aw_iload d_X6_traceLending_22 4 rfl ?_
  refine aw_aload_n (i := 0) rfl d_X6_traceLending_24 0 rfl ?_
  refine aw_geti (k0 := 16) kc_6 (ws_20 w) (Nat.le_of_ble_eq_true rfl) tw_380 d_X6_traceLending_25 rfl ?_
  refine aw_icmp_ge (tgt := 93) d_X6_traceLending_28 rfl (fun c3 => ?_) (fun c3 => ?_)
  · have k := k.1 c3
    refine aw_aload_n (i := 0) rfl d_X6_traceLending_93 0 rfl ?_
    refine aw_getr (k0 := 19) kc_6 (ws_20 w) (Nat.le_of_ble_eq_true rfl) tw_384 d_X6_traceLending_94 rfl (wr_20_19 w) ?_
    refine aw_iload d_X6_traceLending_97 3 rfl ?_
    obtain ⟨b4, k⟩ := k
    refine aw_iald (ws_103 w) b4 d_X6_traceLending_99 ?_
    refine aw_iconst (v := (-1)) d_X6_traceLending_100 ic_m1 ?_
    refine aw_icmp_eq (tgt := 118) d_X6_traceLending_101 rfl (fun c5 => ?_) (fun c5 => ?_)
    · have k := k.1 c5
      refine aw_iinc (v := (x4 + 1)) [(0, .ref 20), (1, .int x1), (3, .int x3), (4, .int (x4 + 1)), (5, .int x5)] d_X6_traceLending_118 3 rfl rfl (Nat.le_of_ble_eq_true rfl) rfl rfl ?_
      refine aw_goto (tgt := 5) d_X6_traceLending_121 rfl ?_
      exact aw_lvp [0, 1, 2, 3] [(0, .ref 20), (1, .int x1), (3, .int x3), (4, .int (x4 + 1))] rfl k
    · have k := k.2 c5
      refine aw_iload_n (i := 3) rfl d_X6_traceLending_104 2 rfl ?_
      refine aw_iconst (v := 1) d_X6_traceLending_105 ic_1 ?_
      refine aw_iconst (v := 2) d_X6_traceLending_106 ic_2 ?_
      refine aw_aload_n (i := 0) rfl d_X6_traceLending_107 0 rfl ?_
      refine aw_getr (k0 := 19) kc_6 (ws_20 w) (Nat.le_of_ble_eq_true rfl) tw_384 d_X6_traceLending_108 rfl (wr_20_19 w) ?_
      refine aw_iload d_X6_traceLending_111 3 rfl ?_
      obtain ⟨b6, k⟩ := k
      refine aw_iald (ws_103 w) b6 d_X6_traceLending_113 ?_
      refine aw_imul d_X6_traceLending_114 ?_
      refine aw_ishl d_X6_traceLending_115 ?_
      refine aw_isub d_X6_traceLending_116 ?_
      refine aw_istore_n (i := 3) rfl [(0, .ref 20), (1, .int x1), (3, .int (x3 - ((1 : Int32) <<< ((2 * (h_i h 103 x4.toNatClampNeg)) &&& 31)))), (4, .int x4), (5, .int x5)] d_X6_traceLending_117 (Nat.le_of_ble_eq_true rfl) rfl rfl ?_
      refine aw_iinc (v := (x4 + 1)) [(0, .ref 20), (1, .int x1), (3, .int (x3 - ((1 : Int32) <<< ((2 * (h_i h 103 x4.toNatClampNeg)) &&& 31)))), (4, .int (x4 + 1)), (5, .int x5)] d_X6_traceLending_118 3 rfl rfl (Nat.le_of_ble_eq_true rfl) rfl rfl ?_
      refine aw_goto (tgt := 5) d_X6_traceLending_121 rfl ?_
      exact aw_lvp [0, 1, 2, 3] [(0, .ref 20), (1, .int x1), (3, .int (x3 - ((1 : Int32) <<< ((2 * (h_i h 103 x4.toNatClampNeg)) &&& 31)))), (4, .int (x4 + 1))] rfl k
  · have k := k.2 c3
    refine aw_aload_n (i := 0) rfl d_X6_traceLending_31 0 rfl ?_
    refine aw_getr (k0 := 19) kc_6 (ws_20 w) (Nat.le_of_ble_eq_true rfl) tw_384 d_X6_traceLending_32 rfl (wr_20_19 w) ?_
    refine aw_iload d_X6_traceLending_35 3 rfl ?_
    obtain ⟨b7, k⟩ := k
    refine aw_iald (ws_103 w) b7 d_X6_traceLending_37 ?_
    refine aw_iconst (v := (-1)) d_X6_traceLending_38 ic_m1 ?_
    refine aw_icmp_ne (tgt := 93) d_X6_traceLending_39 rfl (fun c8 => ?_) (fun c8 => ?_)
    · have k := k.1 c8
      refine aw_aload_n (i := 0) rfl d_X6_traceLending_93 0 rfl ?_
      refine aw_getr (k0 := 19) kc_6 (ws_20 w) (Nat.le_of_ble_eq_true rfl) tw_384 d_X6_traceLending_94 rfl (wr_20_19 w) ?_
      refine aw_iload d_X6_traceLending_97 3 rfl ?_
      obtain ⟨b9, k⟩ := k
      refine aw_iald (ws_103 w) b9 d_X6_traceLending_99 ?_
      refine aw_iconst (v := (-1)) d_X6_traceLending_100 ic_m1 ?_
      refine aw_icmp_eq (tgt := 118) d_X6_traceLending_101 rfl (fun c10 => ?_) (fun c10 => ?_)
      · have k := k.1 c10
        refine aw_iinc (v := (x4 + 1)) [(0, .ref 20), (1, .int x1), (3, .int x3), (4, .int (x4 + 1)), (5, .int x5)] d_X6_traceLending_118 3 rfl rfl (Nat.le_of_ble_eq_true rfl) rfl rfl ?_
        refine aw_goto (tgt := 5) d_X6_traceLending_121 rfl ?_
        exact aw_lvp [0, 1, 2, 3] [(0, .ref 20), (1, .int x1), (3, .int x3), (4, .int (x4 + 1))] rfl k
      · have k := k.2 c10
        refine aw_iload_n (i := 3) rfl d_X6_traceLending_104 2 rfl ?_
        refine aw_iconst (v := 1) d_X6_traceLending_105 ic_1 ?_
        refine aw_iconst (v := 2) d_X6_traceLending_106 ic_2 ?_
        refine aw_aload_n (i := 0) rfl d_X6_traceLending_107 0 rfl ?_
        refine aw_getr (k0 := 19) kc_6 (ws_20 w) (Nat.le_of_ble_eq_true rfl) tw_384 d_X6_traceLending_108 rfl (wr_20_19 w) ?_
        refine aw_iload d_X6_traceLending_111 3 rfl ?_
        obtain ⟨b11, k⟩ := k
        refine aw_iald (ws_103 w) b11 d_X6_traceLending_113 ?_
        refine aw_imul d_X6_traceLending_114 ?_
        refine aw_ishl d_X6_traceLending_115 ?_
        refine aw_isub d_X6_traceLending_116 ?_
        refine aw_istore_n (i := 3) rfl [(0, .ref 20), (1, .int x1), (3, .int (x3 - ((1 : Int32) <<< ((2 * (h_i h 103 x4.toNatClampNeg)) &&& 31)))), (4, .int x4), (5, .int x5)] d_X6_traceLending_117 (Nat.le_of_ble_eq_true rfl) rfl rfl ?_
        refine aw_iinc (v := (x4 + 1)) [(0, .ref 20), (1, .int x1), (3, .int (x3 - ((1 : Int32) <<< ((2 * (h_i h 103 x4.toNatClampNeg)) &&& 31)))), (4, .int (x4 + 1)), (5, .int x5)] d_X6_traceLending_118 3 rfl rfl (Nat.le_of_ble_eq_true rfl) rfl rfl ?_
        refine aw_goto (tgt := 5) d_X6_traceLending_121 rfl ?_
        exact aw_lvp [0, 1, 2, 3] [(0, .ref 20), (1, .int x1), (3, .int (x3 - ((1 : Int32) <<< ((2 * (h_i h 103 x4.toNatClampNeg)) &&& 31)))), (4, .int (x4 + 1))] rfl k
    · have k := k.2 c8
      refine aw_aload_n (i := 0) rfl d_X6_traceLending_42 0 rfl ?_
      refine aw_iload d_X6_traceLending_43 3 rfl ?_
      refine aw_iload d_X6_traceLending_45 4 rfl ?_
      refine aw_iload_n (i := 3) rfl d_X6_traceLending_47 2 rfl ?_
      refine aw_Vi 20 [.int x4, .int x5, .int x3] [] d_X6_traceLending_48 (cV_X6_costWith (d + 1) 0 0) kc_6 (ws_20 w) tw_1529 rfl (rr0 (Nat.le_of_ble_eq_true rfl) (Nat.le_of_ble_eq_true rfl)) (Nat.le_of_ble_eq_true rfl) xs0 k (fun r14 h12 kk => ?_)
      obtain ⟨w13, k⟩ := kk
      refine aw_istore [(0, .ref 20), (1, .int x1), (3, .int x3), (4, .int x4), (5, .int x5), (6, .int r14)] d_X6_traceLending_51 (Nat.le_of_ble_eq_true rfl) rfl rfl ?_
      refine aw_iload d_X6_traceLending_53 5 rfl ?_
      refine aw_ldc (v := 1000000000) d_X6_traceLending_55 tw_1524 ?_
      refine aw_icmp_ge (tgt := 87) d_X6_traceLending_57 rfl (fun c15 => ?_) (fun c15 => ?_)
      · have k := k.1 c15
        refine aw_iinc (v := (x5 + 1)) [(0, .ref 20), (1, .int x1), (3, .int x3), (4, .int x4), (5, .int (x5 + 1)), (6, .int r14)] d_X6_traceLending_87 4 rfl rfl (Nat.le_of_ble_eq_true rfl) rfl rfl ?_
        refine aw_goto (tgt := 22) d_X6_traceLending_90 rfl ?_
        exact aw_lvp [0, 1, 2, 3, 4] [(0, .ref 20), (1, .int x1), (3, .int x3), (4, .int x4), (5, .int (x5 + 1))] rfl k
      · have k := k.2 c15
        refine aw_iload d_X6_traceLending_60 5 rfl ?_
        refine aw_aload_n (i := 0) rfl d_X6_traceLending_62 0 rfl ?_
        refine aw_getr (k0 := 18) kc_6 (ws_20 w13) (Nat.le_of_ble_eq_true rfl) tw_383 d_X6_traceLending_63 rfl (wr_20_18 w13) ?_
        refine aw_iload d_X6_traceLending_66 3 rfl ?_
        refine aw_sipush (v := 256) d_X6_traceLending_68 is_256 ?_
        refine aw_imul d_X6_traceLending_71 ?_
        refine aw_iload_n (i := 3) rfl d_X6_traceLending_72 2 rfl ?_
        refine aw_iadd d_X6_traceLending_73 ?_
        obtain ⟨b16, k⟩ := k
        refine aw_iald (ws_102 w13) b16 d_X6_traceLending_74 ?_
        refine aw_icmp_ne (tgt := 87) d_X6_traceLending_75 rfl (fun c17 => ?_) (fun c17 => ?_)
        · have k := k.1 c17
          refine aw_iinc (v := (x5 + 1)) [(0, .ref 20), (1, .int x1), (3, .int x3), (4, .int x4), (5, .int (x5 + 1)), (6, .int r14)] d_X6_traceLending_87 4 rfl rfl (Nat.le_of_ble_eq_true rfl) rfl rfl ?_
          refine aw_goto (tgt := 22) d_X6_traceLending_90 rfl ?_
          exact aw_lvp [0, 1, 2, 3, 4] [(0, .ref 20), (1, .int x1), (3, .int x3), (4, .int x4), (5, .int (x5 + 1))] rfl k
        · have k := k.2 c17
          refine aw_aload_n (i := 0) rfl d_X6_traceLending_78 0 rfl ?_
          refine aw_getr (k0 := 19) kc_6 (ws_20 w13) (Nat.le_of_ble_eq_true rfl) tw_384 d_X6_traceLending_79 rfl (wr_20_19 w13) ?_
          refine aw_iload d_X6_traceLending_82 3 rfl ?_
          refine aw_iload d_X6_traceLending_84 4 rfl ?_
          obtain ⟨b18, k⟩ := k
          refine aw_iast (ws_103 w13) b18 d_X6_traceLending_86 ?_
          refine aw_iinc (v := (x5 + 1)) [(0, .ref 20), (1, .int x1), (3, .int x3), (4, .int x4), (5, .int (x5 + 1)), (6, .int r14)] d_X6_traceLending_87 4 rfl rfl (Nat.le_of_ble_eq_true rfl) rfl rfl ?_
          refine aw_goto (tgt := 22) d_X6_traceLending_90 rfl ?_
          exact aw_lvp [0, 1, 2, 3, 4] [(0, .ref 20), (1, .int x1), (3, .int x3), (4, .int x4), (5, .int (x5 + 1))] rfl k
theorem dp_in {x : Int32} {n : Nat} {lo hi : Int} (h : rin x.toInt (lo, hi)) (l : 0 ≤ lo) (u : hi < n) : vp_in x n := by
  have h1 : lo ≤ x.toInt := h.1
  have h2 : x.toInt ≤ hi := h.2
  have b0 := n_nat (x := x) (by omega)
  have a0 : (0 : Int32).toInt = 0 := rfl
  rintro (y | y)
  · have y := q_lt.mp y
    omega
  · omega
theorem dp_rg {h : Hp_} (I : Iv h) (a k : Nat) {r : Rg} (e : tfa a = some r) : rin (h_i h a k).toInt r := by
  have := I.2.1 a k
  rwa [tfa_tf e] at this
theorem tl_fr {ws : List Nat} {h0 h : Hp_} {a k : Nat} {x : Int32} (F : Fr ws h0 h) (e : inw ws a 999 = true) : Fr ws h0 (h_im h a k x) := F.im (inw_row e _)
end
section
/-! a text's length as a step of the check -/
def x_tl (n : Nat) : Fx := fun a => match a.2.1 with
  | .inr 4 :: st => bif Nat.ble ((st.map ac).sum) 8 then some [(n, a.1, avi (0, 9) :: st, a.2.2)] else none
  | _ => none
theorem z_tl {ws : List Nat} {h0 : Hp_} {M : Mc_} {K : Option Value → Hp_ → Prop} {pc : Nat} {idx d N : Nat} (hN : d + 1 = N) (hd : decode (mC M) pc = .ok (.invokevirtual idx, 3)) (hlk : Cond.methodLink (mY M).cls idx ⟨"java/lang/String", "length", "()I"⟩ ∈ lw_g) (hz : rz_ (m_J0_length_8abf5 N 0 0) M) {nx : Nat} (hnx : pc + 3 = nx) : Sd ws h0 M K pc (x_tl nx) := by
  subst hN hnx
  intro g a out e lv st h G kx
  obtain ⟨la, sa, hf⟩ := a
  unfold x_tl at e
  split at e
  · rename_i sa' q
    have q : sa = .inr 4 :: sa' := q
    subst q
    cases z : Nat.ble ((sa'.map ac).sum) 8 with
    | false => rw [z] at e; cases e
    | true =>
      rw [z] at e
      have e := (Option.some.inj e).symm
      subst e
      obtain ⟨w, t, es, ⟨i, hi, ew⟩, _, m⟩ := sm1 G.2.1
      subst es ew
      refine aw_Ti [] t hi hd rfl (cV_J0_length_8abf5 (d + 1) 0 0) hlk rfl ⟨hz.1, Nat.zero_le _, Nat.zero_le _⟩ (by rw [sm_cat m]; exact Nat.ble_eq.mp z) hz.2.2.2 (c_length d i hi h) (fun r h1 kk => ?_)
      obtain ⟨k1, k2⟩ := kk
      subst k2
      exact kx _ List.mem_cons_self _ _ _ ⟨G.1, ⟨bm_i k1 _, sl_0, m⟩, G.2.2⟩
  · cases e
/-! a man at a place of the class's row, asked twice -/
section MEN
variable {ws : List Nat} {h0 : Hp_} {K : Option Value → Hp_ → Prop}
def x_men : Fx := fun a => match lk 0 a.1, lk 3 a.1, a.2.1 with
  | some (.inr 10), some (.inl (r, _, _)), [] => bif rsub r (0, 11) then some [(37, a), (30, a.1, [avi rtop], a.2.2)] else none
  | _, _, _ => none
theorem z_men (n : Nat) : Sd ws h0 (m_X11_countMenAt (n + 0) 0 0) K 12 x_men := by
  intro g a out e lv st h G kx
  obtain ⟨la, sa, hf⟩ := a
  unfold x_men at e
  split at e
  · rename_i r s1 g1 q0 q3 q5
    have q5 : sa = [] := q5
    subst q5
    cases z : rsub r (0, 11) with
    | false => rw [z] at e; cases e
    | true =>
      rw [z] at e
      have e := (Option.some.inj e).symm
      subst e
      cases st with
      | cons _ _ => exact G.2.1.elim
      | nil =>
        obtain ⟨j0, v0, hj0, e0⟩ := lm_lk G.1 q0
        have e0 : v0 = .ref 0 := e0
        obtain ⟨j3, v3, hj3, x3, e3, hx3, _⟩ := lm_lk G.1 q3
        subst e0 e3
        have I := G.2.2.2.1
        have w := I.1
        have b := rsub_in z hx3
        have b1 : 0 ≤ x3.toInt := b.1
        have b2 : x3.toInt ≤ 11 := b.2
        have hv : vp_in x3 12 := by
          have b0 := n_nat (x := x3) b1
          have a0 : (0 : Int32).toInt = 0 := rfl
          rintro (y | y)
          · have y := q_lt.mp y
            omega
          · omega
        refine aw_aload_n (i := 0) rfl d_X11_countMenAt_12 j0 hj0 ?_
        refine aw_getr (k0 := 6) kc_11 (ws_0 w) (Nat.le_of_ble_eq_true rfl) tw_493 d_X11_countMenAt_13 rfl (wr_0_6 w) ?_
        refine aw_iload_n (i := 3) rfl d_X11_countMenAt_16 j3 hj3 ?_
        rcases I.2.2.1 x3.toNatClampNeg with y | ⟨c, y, hc⟩
        · refine aw_aaldn (ws_15 w) hv y d_X11_countMenAt_17 ?_
          refine aw_ifnullN (tgt := 37) d_X11_countMenAt_18 rfl ?_
          exact kx _ List.mem_cons_self _ _ _ G
        · refine aw_aaldr (ws_15 w) hv y d_X11_countMenAt_17 ?_
          refine aw_ifnull d_X11_countMenAt_18 ?_
          refine aw_aload_n (i := 0) rfl d_X11_countMenAt_21 j0 hj0 ?_
          refine aw_getr (k0 := 6) kc_11 (ws_0 w) (Nat.le_of_ble_eq_true rfl) tw_493 d_X11_countMenAt_22 rfl (wr_0_6 w) ?_
          refine aw_iload_n (i := 3) rfl d_X11_countMenAt_25 j3 hj3 ?_
          refine aw_aaldr (ws_15 w) hv y d_X11_countMenAt_26 ?_
          refine aw_geti (k0 := 5) kc_2 hc.2.2 (Nat.le_of_ble_eq_true rfl) tw_583 d_X11_countMenAt_27 rfl ?_
          exact kx _ (List.mem_cons_of_mem _ List.mem_cons_self) _ _ _ ⟨G.1, ⟨bm_i (rtop_in _) _, sl_0, trivial⟩, G.2.2⟩
  · cases e
end MEN
end
section
theorem t_X12_both (d : Nat) (h : Hp_) (x0 : Int32) (x1 : Int32) (x2 : Int32) (K : Int32 → Hp_ → Prop) (k : (x0 = 38 → (x1 = 0 → K 0 h) ∧ (¬ x1 = 0 → (x2 = 0 → K 0 h) ∧ (¬ x2 = 0 → K 1 h))) ∧ ((x0 = 42 → Ci (m_X12_bounded (d + 1) 0 0) [.long (((x1 : Int32).toInt64) * ((x2 : Int32).toInt64))] h (fun r7 h5 => Wf h5 ∧ (K r7 h5))) ∧ ((x0 = 43 → Ci (m_X12_bounded (d + 1) 0 0) [.long (((x1 : Int32).toInt64) + ((x2 : Int32).toInt64))] h (fun r11 h9 => Wf h9 ∧ (K r11 h9))) ∧ ((x0 = 45 → Ci (m_X12_bounded (d + 1) 0 0) [.long (((x1 : Int32).toInt64) - ((x2 : Int32).toInt64))] h (fun r15 h13 => Wf h13 ∧ (K r15 h13))) ∧ ((x0 = 60 → (x2 ≤ x1 → K 0 h) ∧ (¬ x2 ≤ x1 → K 1 h)) ∧ ((x0 = 61 → (¬ x1 = x2 → K 0 h) ∧ (x1 = x2 → K 1 h)) ∧ ((x0 = 62 → (x1 ≤ x2 → K 0 h) ∧ (¬ x1 ≤ x2 → K 1 h)) ∧ ((¬ x0 = 38 ∧ ¬ x0 = 42 ∧ ¬ x0 = 43 ∧ ¬ x0 = 45 ∧ ¬ x0 = 60 ∧ ¬ x0 = 61 ∧ ¬ x0 = 62 → (¬ x1 = 0 → K 1 h) ∧ (x1 = 0 → (x2 = 0 → K 0 h) ∧ (¬ x2 = 0 → K 1 h))))))))))) : Ci (m_X12_both (d + 2) 0 0) [.int x0, .int x1, .int x2] h K := by
  refine Ct.of (fun _ _ _ => trivial) rfl (Nat.le_of_ble_eq_true rfl) ?_
  show AW (m_X12_both (d + 2) 0 0) 0 0 0 [(0, .int x0), (1, .int x1), (2, .int x2)] [] h (kI K)
  refine aw_iload_n (i := 0) rfl d_X12_both_0 0 rfl ?_
  by_cases e1 : x0 = 38
  · refine aw_tableIn (off := 175) (tgt := 176) d_X12_both_1 (by rw [e1]; decide) (by rw [e1]; decide) (by rw [e1]; decide) rfl ?_
    have k := k.1 e1
    refine aw_iload_n (i := 1) rfl d_X12_both_176 1 rfl ?_
    refine aw_if_eq (tgt := 188) d_X12_both_177 rfl (fun c2 => ?_) (fun c2 => ?_)
    · have k := k.1 c2
      refine aw_iconst (v := 0) d_X12_both_188 ic_0 ?_
      exact aw_iret rfl d_X12_both_189 ⟨Nat.le_refl _, Nat.le_refl _⟩ ⟨_, rfl, k⟩
    · have k := k.2 c2
      refine aw_iload_n (i := 2) rfl d_X12_both_180 2 rfl ?_
      refine aw_if_eq (tgt := 188) d_X12_both_181 rfl (fun c3 => ?_) (fun c3 => ?_)
      · have k := k.1 c3
        refine aw_iconst (v := 0) d_X12_both_188 ic_0 ?_
        exact aw_iret rfl d_X12_both_189 ⟨Nat.le_refl _, Nat.le_refl _⟩ ⟨_, rfl, k⟩
      · have k := k.2 c3
        refine aw_iconst (v := 1) d_X12_both_184 ic_1 ?_
        refine aw_goto (tgt := 189) d_X12_both_185 rfl ?_
        exact aw_iret rfl d_X12_both_189 ⟨Nat.le_refl _, Nat.le_refl _⟩ ⟨_, rfl, k⟩
  · have k := k.2
    by_cases e4 : x0 = 42
    · refine aw_tableIn (off := 133) (tgt := 134) d_X12_both_1 (by rw [e4]; decide) (by rw [e4]; decide) (by rw [e4]; decide) rfl ?_
      have k := k.1 e4
      refine aw_iload_n (i := 1) rfl d_X12_both_134 1 rfl ?_
      refine aw_i2l d_X12_both_135 ?_
      refine aw_iload_n (i := 2) rfl d_X12_both_136 2 rfl ?_
      refine aw_i2l d_X12_both_137 ?_
      refine aw_lmul d_X12_both_138 ?_
      refine aw_Si [.long (((x1 : Int32).toInt64) * ((x2 : Int32).toInt64))] [] d_X12_both_139 (cS_X12_bounded (d + 1) 0 0) tw_2435 rfl (rr0 (Nat.le_of_ble_eq_true rfl) (Nat.le_of_ble_eq_true rfl)) (Nat.le_of_ble_eq_true rfl) xs0 k (fun r7 h5 kk => ?_)
      obtain ⟨w6, k⟩ := kk
      exact aw_iret rfl d_X12_both_142 ⟨Nat.le_refl _, Nat.le_refl _⟩ ⟨_, rfl, k⟩
    · have k := k.2
      by_cases e8 : x0 = 43
      · refine aw_tableIn (off := 115) (tgt := 116) d_X12_both_1 (by rw [e8]; decide) (by rw [e8]; decide) (by rw [e8]; decide) rfl ?_
        have k := k.1 e8
        refine aw_iload_n (i := 1) rfl d_X12_both_116 1 rfl ?_
        refine aw_i2l d_X12_both_117 ?_
        refine aw_iload_n (i := 2) rfl d_X12_both_118 2 rfl ?_
        refine aw_i2l d_X12_both_119 ?_
        refine aw_ladd d_X12_both_120 ?_
        refine aw_Si [.long (((x1 : Int32).toInt64) + ((x2 : Int32).toInt64))] [] d_X12_both_121 (cS_X12_bounded (d + 1) 0 0) tw_2435 rfl (rr0 (Nat.le_of_ble_eq_true rfl) (Nat.le_of_ble_eq_true rfl)) (Nat.le_of_ble_eq_true rfl) xs0 k (fun r11 h9 kk => ?_)
        obtain ⟨w10, k⟩ := kk
        exact aw_iret rfl d_X12_both_124 ⟨Nat.le_refl _, Nat.le_refl _⟩ ⟨_, rfl, k⟩
      · have k := k.2
        by_cases e12 : x0 = 45
        · refine aw_tableIn (off := 124) (tgt := 125) d_X12_both_1 (by rw [e12]; decide) (by rw [e12]; decide) (by rw [e12]; decide) rfl ?_
          have k := k.1 e12
          refine aw_iload_n (i := 1) rfl d_X12_both_125 1 rfl ?_
          refine aw_i2l d_X12_both_126 ?_
          refine aw_iload_n (i := 2) rfl d_X12_both_127 2 rfl ?_
          refine aw_i2l d_X12_both_128 ?_
          refine aw_lsub d_X12_both_129 ?_
          refine aw_Si [.long (((x1 : Int32).toInt64) - ((x2 : Int32).toInt64))] [] d_X12_both_130 (cS_X12_bounded (d + 1) 0 0) tw_2435 rfl (rr0 (Nat.le_of_ble_eq_true rfl) (Nat.le_of_ble_eq_true rfl)) (Nat.le_of_ble_eq_true rfl) xs0 k (fun r15 h13 kk => ?_)
          obtain ⟨w14, k⟩ := kk
          exact aw_iret rfl d_X12_both_133 ⟨Nat.le_refl _, Nat.le_refl _⟩ ⟨_, rfl, k⟩
        · have k := k.2
          by_cases e16 : x0 = 60
          · refine aw_tableIn (off := 153) (tgt := 154) d_X12_both_1 (by rw [e16]; decide) (by rw [e16]; decide) (by rw [e16]; decide) rfl ?_
            have k := k.1 e16
            refine aw_iload_n (i := 1) rfl d_X12_both_154 1 rfl ?_
            refine aw_iload_n (i := 2) rfl d_X12_both_155 2 rfl ?_
            refine aw_icmp_ge (tgt := 163) d_X12_both_156 rfl (fun c17 => ?_) (fun c17 => ?_)
            · have k := k.1 c17
              refine aw_iconst (v := 0) d_X12_both_163 ic_0 ?_
              exact aw_iret rfl d_X12_both_164 ⟨Nat.le_refl _, Nat.le_refl _⟩ ⟨_, rfl, k⟩
            · have k := k.2 c17
              refine aw_iconst (v := 1) d_X12_both_159 ic_1 ?_
              refine aw_goto (tgt := 164) d_X12_both_160 rfl ?_
              exact aw_iret rfl d_X12_both_164 ⟨Nat.le_refl _, Nat.le_refl _⟩ ⟨_, rfl, k⟩
          · have k := k.2
            by_cases e18 : x0 = 61
            · refine aw_tableIn (off := 142) (tgt := 143) d_X12_both_1 (by rw [e18]; decide) (by rw [e18]; decide) (by rw [e18]; decide) rfl ?_
              have k := k.1 e18
              refine aw_iload_n (i := 1) rfl d_X12_both_143 1 rfl ?_
              refine aw_iload_n (i := 2) rfl d_X12_both_144 2 rfl ?_
              refine aw_icmp_ne (tgt := 152) d_X12_both_145 rfl (fun c19 => ?_) (fun c19 => ?_)
              · have k := k.1 c19
                refine aw_iconst (v := 0) d_X12_both_152 ic_0 ?_
                exact aw_iret rfl d_X12_both_153 ⟨Nat.le_refl _, Nat.le_refl _⟩ ⟨_, rfl, k⟩
              · have k := k.2 c19
                refine aw_iconst (v := 1) d_X12_both_148 ic_1 ?_
                refine aw_goto (tgt := 153) d_X12_both_149 rfl ?_
                exact aw_iret rfl d_X12_both_153 ⟨Nat.le_refl _, Nat.le_refl _⟩ ⟨_, rfl, k⟩
            · have k := k.2
              by_cases e20 : x0 = 62
              · refine aw_tableIn (off := 164) (tgt := 165) d_X12_both_1 (by rw [e20]; decide) (by rw [e20]; decide) (by rw [e20]; decide) rfl ?_
                have k := k.1 e20
                refine aw_iload_n (i := 1) rfl d_X12_both_165 1 rfl ?_
                refine aw_iload_n (i := 2) rfl d_X12_both_166 2 rfl ?_
                refine aw_icmp_le (tgt := 174) d_X12_both_167 rfl (fun c21 => ?_) (fun c21 => ?_)
                · have k := k.1 c21
                  refine aw_iconst (v := 0) d_X12_both_174 ic_0 ?_
                  exact aw_iret rfl d_X12_both_175 ⟨Nat.le_refl _, Nat.le_refl _⟩ ⟨_, rfl, k⟩
                · have k := k.2 c21
                  refine aw_iconst (v := 1) d_X12_both_170 ic_1 ?_
                  refine aw_goto (tgt := 175) d_X12_both_171 rfl ?_
                  exact aw_iret rfl d_X12_both_175 ⟨Nat.le_refl _, Nat.le_refl _⟩ ⟨_, rfl, k⟩
              · have k := k.2
                have k := k ⟨e1, e4, e8, e12, e16, e18, e20⟩
                have n24 := sw_ne (38) (by decide) e1
                have n25 := sw_ne (42) (by decide) e4
                have n26 := sw_ne (43) (by decide) e8
                have n27 := sw_ne (45) (by decide) e12
                have n28 := sw_ne (60) (by decide) e16
                have n29 := sw_ne (61) (by decide) e18
                have n30 := sw_ne (62) (by decide) e20
                refine aw_tableD (tgt := 190) d_X12_both_1 (by
                  rcases (show (x0 : Int32).toInt < 38 ∨ 62 < (x0 : Int32).toInt ∨ (x0 : Int32).toInt = 39 ∨ (x0 : Int32).toInt = 40 ∨ (x0 : Int32).toInt = 41 ∨ (x0 : Int32).toInt = 44 ∨ (x0 : Int32).toInt = 46 ∨ (x0 : Int32).toInt = 47 ∨ (x0 : Int32).toInt = 48 ∨ (x0 : Int32).toInt = 49 ∨ (x0 : Int32).toInt = 50 ∨ (x0 : Int32).toInt = 51 ∨ (x0 : Int32).toInt = 52 ∨ (x0 : Int32).toInt = 53 ∨ (x0 : Int32).toInt = 54 ∨ (x0 : Int32).toInt = 55 ∨ (x0 : Int32).toInt = 56 ∨ (x0 : Int32).toInt = 57 ∨ (x0 : Int32).toInt = 58 ∨ (x0 : Int32).toInt = 59 by omega) with e | e | e | e | e | e | e | e | e | e | e | e | e | e | e | e | e | e | e | e
                  · exact Or.inl e
                  · exact Or.inr (Or.inl e)
                  · exact Or.inr (Or.inr (by rw [e]; decide))
                  · exact Or.inr (Or.inr (by rw [e]; decide))
                  · exact Or.inr (Or.inr (by rw [e]; decide))
                  · exact Or.inr (Or.inr (by rw [e]; decide))
                  · exact Or.inr (Or.inr (by rw [e]; decide))
                  · exact Or.inr (Or.inr (by rw [e]; decide))
                  · exact Or.inr (Or.inr (by rw [e]; decide))
                  · exact Or.inr (Or.inr (by rw [e]; decide))
                  · exact Or.inr (Or.inr (by rw [e]; decide))
                  · exact Or.inr (Or.inr (by rw [e]; decide))
                  · exact Or.inr (Or.inr (by rw [e]; decide))
                  · exact Or.inr (Or.inr (by rw [e]; decide))
                  · exact Or.inr (Or.inr (by rw [e]; decide))
                  · exact Or.inr (Or.inr (by rw [e]; decide))
                  · exact Or.inr (Or.inr (by rw [e]; decide))
                  · exact Or.inr (Or.inr (by rw [e]; decide))
                  · exact Or.inr (Or.inr (by rw [e]; decide))
                  · exact Or.inr (Or.inr (by rw [e]; decide))) rfl ?_
                refine aw_iload_n (i := 1) rfl d_X12_both_190 1 rfl ?_
                refine aw_if_ne (tgt := 198) d_X12_both_191 rfl (fun c22 => ?_) (fun c22 => ?_)
                · have k := k.1 c22
                  refine aw_iconst (v := 1) d_X12_both_198 ic_1 ?_
                  refine aw_goto (tgt := 203) d_X12_both_199 rfl ?_
                  exact aw_iret rfl d_X12_both_203 ⟨Nat.le_refl _, Nat.le_refl _⟩ ⟨_, rfl, k⟩
                · have k := k.2 c22
                  refine aw_iload_n (i := 2) rfl d_X12_both_194 2 rfl ?_
                  refine aw_if_eq (tgt := 202) d_X12_both_195 rfl (fun c23 => ?_) (fun c23 => ?_)
                  · have k := k.1 c23
                    refine aw_iconst (v := 0) d_X12_both_202 ic_0 ?_
                    exact aw_iret rfl d_X12_both_203 ⟨Nat.le_refl _, Nat.le_refl _⟩ ⟨_, rfl, k⟩
                  · have k := k.2 c23
                    refine aw_iconst (v := 1) d_X12_both_198 ic_1 ?_
                    refine aw_goto (tgt := 203) d_X12_both_199 rfl ?_
                    exact aw_iret rfl d_X12_both_203 ⟨Nat.le_refl _, Nat.le_refl _⟩ ⟨_, rfl, k⟩
theorem t_X12_work (d : Nat) (h : Hp_)  (K : Int32 → Hp_ → Prop) (k : AW (m_X12_work (d + 3) 0 0) 0 0 2 [(0, .ref 1), (1, .int 0)] [] h (kI K)) : Ci (m_X12_work (d + 3) 0 0) [.ref 1] h K := by
  refine Ct.of (fun _ _ _ => trivial) rfl (Nat.le_of_ble_eq_true rfl) ?_
  show AW (m_X12_work (d + 3) 0 0) 0 0 0 [(0, .ref 1)] [] h (kI K)
  refine aw_iconst (v := 0) d_X12_work_0 ic_0 ?_
  refine aw_istore_n (i := 1) rfl [(0, .ref 1), (1, .int 0)] d_X12_work_1 (Nat.le_of_ble_eq_true rfl) rfl rfl ?_
  exact k
theorem t_X12_work_2 (d : Nat) (h : Hp_) (w : Wf h) (x1 : Int32) (K : Int32 → Hp_ → Prop) (k : vp_in (h_i h 1 52) 22400 ∧ (((h_i h 231 ((h_i h 1 52) : Int32).toNatClampNeg) = 2 → vp_in 0 200 ∧ (K (h_i h 237 (0 : Int32).toNatClampNeg) (h_im h 1 52 ((h_i h 1 52) + 1)))) ∧ (¬ (h_i h 231 ((h_i h 1 52) : Int32).toNatClampNeg) = 2 → vp_in (h_i h 1 52) 22400 ∧ (((h_i h 231 ((h_i h 1 52) : Int32).toNatClampNeg) = 3 → vp_in 0 200 ∧ (K (h_i h 237 (0 : Int32).toNatClampNeg) (h_im h 1 52 ((h_i h 1 52) + 1)))) ∧ (¬ (h_i h 231 ((h_i h 1 52) : Int32).toNatClampNeg) = 3 → vp_in (h_i h 1 52) 22400 ∧ (((h_i h 231 ((h_i h 1 52) : Int32).toNatClampNeg) = 0 → (¬ (h_i h 231 ((h_i h 1 52) : Int32).toNatClampNeg) = 0 → vp_in ((h_i h 1 52) + 1) 22400 ∧ (vp_in (h_i h 231 (((h_i h 1 52) + 1) : Int32).toNatClampNeg) 128 ∧ (vp_in x1 200 ∧ (AW (m_X12_work (d + 3) 0 0) 0 0 2 [(0, .ref 1), (1, .int (x1 + 1))] [] (h_im (h_im (h_im h 1 52 ((h_i h 1 52) + 1)) 237 x1.toNatClampNeg (h_i h 236 ((h_i h 231 (((h_i h 1 52) + 1) : Int32).toNatClampNeg) : Int32).toNatClampNeg)) 1 52 (((h_i h 1 52) + 1) + 1)) (kI K))))) ∧ ((h_i h 231 ((h_i h 1 52) : Int32).toNatClampNeg) = 0 → vp_in ((h_i h 1 52) + 1) 22400 ∧ (vp_in x1 200 ∧ (AW (m_X12_work (d + 3) 0 0) 0 0 2 [(0, .ref 1), (1, .int (x1 + 1))] [] (h_im (h_im (h_im h 1 52 ((h_i h 1 52) + 1)) 237 x1.toNatClampNeg (h_i h 231 (((h_i h 1 52) + 1) : Int32).toNatClampNeg)) 1 52 (((h_i h 1 52) + 1) + 1)) (kI K))))) ∧ (¬ (h_i h 231 ((h_i h 1 52) : Int32).toNatClampNeg) = 0 → (¬ (h_i h 231 ((h_i h 1 52) : Int32).toNatClampNeg) = 1 → (¬ (h_i h 231 ((h_i h 1 52) : Int32).toNatClampNeg) = 33 → vp_in ((x1 + (-1)) - 1) 200 ∧ (vp_in (x1 + (-1)) 200 ∧ (Ci (m_X12_both (d + 2) 0 0) [.int (h_i h 231 ((h_i h 1 52) : Int32).toNatClampNeg), .int (h_i h 237 (((x1 + (-1)) - 1) : Int32).toNatClampNeg), .int (h_i h 237 ((x1 + (-1)) : Int32).toNatClampNeg)] (h_im h 1 52 ((h_i h 1 52) + 1)) (fun r21 h19 => Wf h19 ∧ (vp_in ((x1 + (-1)) - 1) 200 ∧ (AW (m_X12_work (d + 3) 0 0) 0 0 2 [(0, .ref 1), (1, .int (x1 + (-1)))] [] (h_im h19 237 (((x1 + (-1)) - 1) : Int32).toNatClampNeg r21) (kI K))))))) ∧ ((h_i h 231 ((h_i h 1 52) : Int32).toNatClampNeg) = 33 → vp_in (x1 - 1) 200 ∧ ((¬ (h_i h 237 ((x1 - 1) : Int32).toNatClampNeg) = 0 → vp_in (x1 - 1) 200 ∧ (AW (m_X12_work (d + 3) 0 0) 0 0 2 [(0, .ref 1), (1, .int x1)] [] (h_im (h_im h 1 52 ((h_i h 1 52) + 1)) 237 ((x1 - 1) : Int32).toNatClampNeg 0) (kI K))) ∧ ((h_i h 237 ((x1 - 1) : Int32).toNatClampNeg) = 0 → vp_in (x1 - 1) 200 ∧ (AW (m_X12_work (d + 3) 0 0) 0 0 2 [(0, .ref 1), (1, .int x1)] [] (h_im (h_im h 1 52 ((h_i h 1 52) + 1)) 237 ((x1 - 1) : Int32).toNatClampNeg 1) (kI K)))))) ∧ ((h_i h 231 ((h_i h 1 52) : Int32).toNatClampNeg) = 1 → (¬ (h_i h 231 ((h_i h 1 52) : Int32).toNatClampNeg) = 0 → vp_in ((h_i h 1 52) + 1) 22400 ∧ (vp_in (h_i h 231 (((h_i h 1 52) + 1) : Int32).toNatClampNeg) 128 ∧ (vp_in x1 200 ∧ (AW (m_X12_work (d + 3) 0 0) 0 0 2 [(0, .ref 1), (1, .int (x1 + 1))] [] (h_im (h_im (h_im h 1 52 ((h_i h 1 52) + 1)) 237 x1.toNatClampNeg (h_i h 236 ((h_i h 231 (((h_i h 1 52) + 1) : Int32).toNatClampNeg) : Int32).toNatClampNeg)) 1 52 (((h_i h 1 52) + 1) + 1)) (kI K))))) ∧ ((h_i h 231 ((h_i h 1 52) : Int32).toNatClampNeg) = 0 → vp_in ((h_i h 1 52) + 1) 22400 ∧ (vp_in x1 200 ∧ (AW (m_X12_work (d + 3) 0 0) 0 0 2 [(0, .ref 1), (1, .int (x1 + 1))] [] (h_im (h_im (h_im h 1 52 ((h_i h 1 52) + 1)) 237 x1.toNatClampNeg (h_i h 231 (((h_i h 1 52) + 1) : Int32).toNatClampNeg)) 1 52 (((h_i h 1 52) + 1) + 1)) (kI K)))))))))))) : AW (m_X12_work (d + 3) 0 0) 0 0 2 [(0, .ref 1), (1, .int x1)] [] h (kI K) := by
  refine aw_aload_n (i := 0) rfl d_X12_work_2 0 rfl ?_
  refine aw_getr (k0 := 45) kc_12 (ws_1 w) (Nat.le_of_ble_eq_true rfl) tw_1787 d_X12_work_3 rfl (wr_1_45 w) ?_
  refine aw_aload_n (i := 0) rfl d_X12_work_6 0 rfl ?_
  refine aw_geti (k0 := 52) kc_12 (ws_1 w) (Nat.le_of_ble_eq_true rfl) tw_1794 d_X12_work_7 rfl ?_
  obtain ⟨b1, k⟩ := k
  refine aw_iald (ws_231 w) b1 d_X12_work_10 ?_
  refine aw_iconst (v := 2) d_X12_work_11 ic_2 ?_
  refine aw_icmp_eq (tgt := 174) d_X12_work_12 rfl (fun c2 => ?_) (fun c2 => ?_)
  · have k := k.1 c2
    refine aw_aload_n (i := 0) rfl d_X12_work_174 0 rfl ?_
    refine aw_dup d_X12_work_175 rfl ?_
    refine aw_geti (k0 := 52) kc_12 (ws_1 w) (Nat.le_of_ble_eq_true rfl) tw_1794 d_X12_work_176 rfl ?_
    refine aw_iconst (v := 1) d_X12_work_179 ic_1 ?_
    refine aw_iadd d_X12_work_180 ?_
    refine aw_puti (k0 := 52) kc_12 (ws_1 w) (Nat.le_of_ble_eq_true rfl) tw_1794 d_X12_work_181 rfl rfl nf_i ?_
    refine aw_aload_n (i := 0) rfl d_X12_work_184 0 rfl ?_
    refine aw_getr (k0 := 51) kc_12 (ws_1 w) (Nat.le_of_ble_eq_true rfl) tw_1793 d_X12_work_185 rfl (wr_1_51 w) ?_
    refine aw_iconst (v := 0) d_X12_work_188 ic_0 ?_
    obtain ⟨b3, k⟩ := k
    refine aw_iald (ws_237 w) b3 d_X12_work_189 ?_
    refine aw_vi (v2 := (h_i h 237 (0 : Int32).toNatClampNeg)) (rfl) ?_
    exact aw_iret rfl d_X12_work_190 ⟨Nat.le_refl _, Nat.le_refl _⟩ ⟨_, rfl, k⟩
  · have k := k.2 c2
    refine aw_aload_n (i := 0) rfl d_X12_work_15 0 rfl ?_
    refine aw_getr (k0 := 45) kc_12 (ws_1 w) (Nat.le_of_ble_eq_true rfl) tw_1787 d_X12_work_16 rfl (wr_1_45 w) ?_
    refine aw_aload_n (i := 0) rfl d_X12_work_19 0 rfl ?_
    refine aw_geti (k0 := 52) kc_12 (ws_1 w) (Nat.le_of_ble_eq_true rfl) tw_1794 d_X12_work_20 rfl ?_
    obtain ⟨b4, k⟩ := k
    refine aw_iald (ws_231 w) b4 d_X12_work_23 ?_
    refine aw_iconst (v := 3) d_X12_work_24 ic_3 ?_
    refine aw_icmp_eq (tgt := 174) d_X12_work_25 rfl (fun c5 => ?_) (fun c5 => ?_)
    · have k := k.1 c5
      refine aw_aload_n (i := 0) rfl d_X12_work_174 0 rfl ?_
      refine aw_dup d_X12_work_175 rfl ?_
      refine aw_geti (k0 := 52) kc_12 (ws_1 w) (Nat.le_of_ble_eq_true rfl) tw_1794 d_X12_work_176 rfl ?_
      refine aw_iconst (v := 1) d_X12_work_179 ic_1 ?_
      refine aw_iadd d_X12_work_180 ?_
      refine aw_puti (k0 := 52) kc_12 (ws_1 w) (Nat.le_of_ble_eq_true rfl) tw_1794 d_X12_work_181 rfl rfl nf_i ?_
      refine aw_aload_n (i := 0) rfl d_X12_work_184 0 rfl ?_
      refine aw_getr (k0 := 51) kc_12 (ws_1 w) (Nat.le_of_ble_eq_true rfl) tw_1793 d_X12_work_185 rfl (wr_1_51 w) ?_
      refine aw_iconst (v := 0) d_X12_work_188 ic_0 ?_
      obtain ⟨b6, k⟩ := k
      refine aw_iald (ws_237 w) b6 d_X12_work_189 ?_
      refine aw_vi (v2 := (h_i h 237 (0 : Int32).toNatClampNeg)) (rfl) ?_
      exact aw_iret rfl d_X12_work_190 ⟨Nat.le_refl _, Nat.le_refl _⟩ ⟨_, rfl, k⟩
    · have k := k.2 c5
      refine aw_aload_n (i := 0) rfl d_X12_work_28 0 rfl ?_
      refine aw_getr (k0 := 45) kc_12 (ws_1 w) (Nat.le_of_ble_eq_true rfl) tw_1787 d_X12_work_29 rfl (wr_1_45 w) ?_
      refine aw_aload_n (i := 0) rfl d_X12_work_32 0 rfl ?_
      refine aw_geti (k0 := 52) kc_12 (ws_1 w) (Nat.le_of_ble_eq_true rfl) tw_1794 d_X12_work_33 rfl ?_
      obtain ⟨b7, k⟩ := k
      refine aw_iald (ws_231 w) b7 d_X12_work_36 ?_
      refine aw_istore_n (i := 2) rfl [(0, .ref 1), (1, .int x1), (2, .int (h_i h 231 ((h_i h 1 52) : Int32).toNatClampNeg))] d_X12_work_37 (Nat.le_of_ble_eq_true rfl) rfl rfl ?_
      refine aw_aload_n (i := 0) rfl d_X12_work_38 0 rfl ?_
      refine aw_dup d_X12_work_39 rfl ?_
      refine aw_geti (k0 := 52) kc_12 (ws_1 w) (Nat.le_of_ble_eq_true rfl) tw_1794 d_X12_work_40 rfl ?_
      refine aw_iconst (v := 1) d_X12_work_43 ic_1 ?_
      refine aw_iadd d_X12_work_44 ?_
      refine aw_puti (k0 := 52) kc_12 (ws_1 w) (Nat.le_of_ble_eq_true rfl) tw_1794 d_X12_work_45 rfl rfl nf_i ?_
      refine aw_iload_n (i := 2) rfl d_X12_work_48 2 rfl ?_
      refine aw_if_eq (tgt := 57) d_X12_work_49 rfl (fun c8 => ?_) (fun c8 => ?_)
      · have k := k.1 c8
        refine aw_aload_n (i := 0) rfl d_X12_work_57 0 rfl ?_
        refine aw_getr (k0 := 51) kc_12 (ws_1 w) (Nat.le_of_ble_eq_true rfl) tw_1793 d_X12_work_58 rfl (wr_1_51 w) ?_
        refine aw_iload_n (i := 1) rfl d_X12_work_61 1 rfl ?_
        refine aw_iload_n (i := 2) rfl d_X12_work_62 2 rfl ?_
        refine aw_if_ne (tgt := 78) d_X12_work_63 rfl (fun c9 => ?_) (fun c9 => ?_)
        · have k := k.1 c9
          refine aw_aload_n (i := 0) rfl d_X12_work_78 0 rfl ?_
          refine aw_getr (k0 := 50) kc_12 (ws_1 w) (Nat.le_of_ble_eq_true rfl) tw_1792 d_X12_work_79 rfl (wr_1_50 w) ?_
          refine aw_aload_n (i := 0) rfl d_X12_work_82 0 rfl ?_
          refine aw_getr (k0 := 45) kc_12 (ws_1 w) (Nat.le_of_ble_eq_true rfl) tw_1787 d_X12_work_83 rfl (wr_1_45 w) ?_
          refine aw_aload_n (i := 0) rfl d_X12_work_86 0 rfl ?_
          refine aw_geti (k0 := 52) kc_12 (ws_1 w) (Nat.le_of_ble_eq_true rfl) tw_1794 d_X12_work_87 rfl ?_
          refine aw_vi (v2 := ((h_i h 1 52) + 1)) (rfl) ?_
          obtain ⟨b10, k⟩ := k
          refine aw_iald (ws_231 w) b10 d_X12_work_90 ?_
          refine aw_vi (v2 := (h_i h 231 (((h_i h 1 52) + 1) : Int32).toNatClampNeg)) (rfl) ?_
          obtain ⟨b11, k⟩ := k
          refine aw_iald (ws_236 w) b11 d_X12_work_91 ?_
          refine aw_vi (v2 := (h_i h 236 ((h_i h 231 (((h_i h 1 52) + 1) : Int32).toNatClampNeg) : Int32).toNatClampNeg)) (rfl) ?_
          obtain ⟨b12, k⟩ := k
          refine aw_iast (ws_237 w) b12 d_X12_work_92 ?_
          refine aw_aload_n (i := 0) rfl d_X12_work_93 0 rfl ?_
          refine aw_dup d_X12_work_94 rfl ?_
          refine aw_geti (k0 := 52) kc_12 (ws_1 w) (Nat.le_of_ble_eq_true rfl) tw_1794 d_X12_work_95 rfl ?_
          refine aw_vi (v2 := ((h_i h 1 52) + 1)) (rfl) ?_
          refine aw_iconst (v := 1) d_X12_work_98 ic_1 ?_
          refine aw_iadd d_X12_work_99 ?_
          refine aw_puti (k0 := 52) kc_12 (ws_1 w) (Nat.le_of_ble_eq_true rfl) tw_1794 d_X12_work_100 rfl rfl nf_i ?_
          refine aw_iinc (v := (x1 + 1)) [(0, .ref 1), (1, .int (x1 + 1)), (2, .int (h_i h 231 ((h_i h 1 52) : Int32).toNatClampNeg))] d_X12_work_103 1 rfl rfl (Nat.le_of_ble_eq_true rfl) rfl rfl ?_
          refine aw_goto (tgt := 171) d_X12_work_106 rfl ?_
          refine aw_goto (tgt := 2) d_X12_work_171 rfl ?_
          exact aw_lvp [0, 1] [(0, .ref 1), (1, .int (x1 + 1))] rfl k
        · have k := k.2 c9
          refine aw_aload_n (i := 0) rfl d_X12_work_66 0 rfl ?_
          refine aw_getr (k0 := 45) kc_12 (ws_1 w) (Nat.le_of_ble_eq_true rfl) tw_1787 d_X12_work_67 rfl (wr_1_45 w) ?_
          refine aw_aload_n (i := 0) rfl d_X12_work_70 0 rfl ?_
          refine aw_geti (k0 := 52) kc_12 (ws_1 w) (Nat.le_of_ble_eq_true rfl) tw_1794 d_X12_work_71 rfl ?_
          refine aw_vi (v2 := ((h_i h 1 52) + 1)) (rfl) ?_
          obtain ⟨b13, k⟩ := k
          refine aw_iald (ws_231 w) b13 d_X12_work_74 ?_
          refine aw_vi (v2 := (h_i h 231 (((h_i h 1 52) + 1) : Int32).toNatClampNeg)) (rfl) ?_
          refine aw_goto (tgt := 92) d_X12_work_75 rfl ?_
          obtain ⟨b14, k⟩ := k
          refine aw_iast (ws_237 w) b14 d_X12_work_92 ?_
          refine aw_aload_n (i := 0) rfl d_X12_work_93 0 rfl ?_
          refine aw_dup d_X12_work_94 rfl ?_
          refine aw_geti (k0 := 52) kc_12 (ws_1 w) (Nat.le_of_ble_eq_true rfl) tw_1794 d_X12_work_95 rfl ?_
          refine aw_vi (v2 := ((h_i h 1 52) + 1)) (rfl) ?_
          refine aw_iconst (v := 1) d_X12_work_98 ic_1 ?_
          refine aw_iadd d_X12_work_99 ?_
          refine aw_puti (k0 := 52) kc_12 (ws_1 w) (Nat.le_of_ble_eq_true rfl) tw_1794 d_X12_work_100 rfl rfl nf_i ?_
          refine aw_iinc (v := (x1 + 1)) [(0, .ref 1), (1, .int (x1 + 1)), (2, .int (h_i h 231 ((h_i h 1 52) : Int32).toNatClampNeg))] d_X12_work_103 1 rfl rfl (Nat.le_of_ble_eq_true rfl) rfl rfl ?_
          refine aw_goto (tgt := 171) d_X12_work_106 rfl ?_
          refine aw_goto (tgt := 2) d_X12_work_171 rfl ?_
          exact aw_lvp [0, 1] [(0, .ref 1), (1, .int (x1 + 1))] rfl k
      · have k := k.2 c8
        refine aw_iload_n (i := 2) rfl d_X12_work_52 2 rfl ?_
        refine aw_iconst (v := 1) d_X12_work_53 ic_1 ?_
        refine aw_icmp_ne (tgt := 109) d_X12_work_54 rfl (fun c15 => ?_) (fun c15 => ?_)
        · have k := k.1 c15
          refine aw_iload_n (i := 2) rfl d_X12_work_109 2 rfl ?_
          refine aw_bipush (v := 33) d_X12_work_110 ib_33 ?_
          refine aw_icmp_ne (tgt := 142) d_X12_work_112 rfl (fun c16 => ?_) (fun c16 => ?_)
          · have k := k.1 c16
            refine aw_iinc (v := (x1 + (-1))) [(0, .ref 1), (1, .int (x1 + (-1))), (2, .int (h_i h 231 ((h_i h 1 52) : Int32).toNatClampNeg))] d_X12_work_142 1 rfl rfl (Nat.le_of_ble_eq_true rfl) rfl rfl ?_
            refine aw_aload_n (i := 0) rfl d_X12_work_145 0 rfl ?_
            refine aw_getr (k0 := 51) kc_12 (ws_1 w) (Nat.le_of_ble_eq_true rfl) tw_1793 d_X12_work_146 rfl (wr_1_51 w) ?_
            refine aw_iload_n (i := 1) rfl d_X12_work_149 1 rfl ?_
            refine aw_iconst (v := 1) d_X12_work_150 ic_1 ?_
            refine aw_isub d_X12_work_151 ?_
            refine aw_iload_n (i := 2) rfl d_X12_work_152 2 rfl ?_
            refine aw_aload_n (i := 0) rfl d_X12_work_153 0 rfl ?_
            refine aw_getr (k0 := 51) kc_12 (ws_1 w) (Nat.le_of_ble_eq_true rfl) tw_1793 d_X12_work_154 rfl (wr_1_51 w) ?_
            refine aw_iload_n (i := 1) rfl d_X12_work_157 1 rfl ?_
            refine aw_iconst (v := 1) d_X12_work_158 ic_1 ?_
            refine aw_isub d_X12_work_159 ?_
            obtain ⟨b17, k⟩ := k
            refine aw_iald (ws_237 w) b17 d_X12_work_160 ?_
            refine aw_vi (v2 := (h_i h 237 (((x1 + (-1)) - 1) : Int32).toNatClampNeg)) (rfl) ?_
            refine aw_aload_n (i := 0) rfl d_X12_work_161 0 rfl ?_
            refine aw_getr (k0 := 51) kc_12 (ws_1 w) (Nat.le_of_ble_eq_true rfl) tw_1793 d_X12_work_162 rfl (wr_1_51 w) ?_
            refine aw_iload_n (i := 1) rfl d_X12_work_165 1 rfl ?_
            obtain ⟨b18, k⟩ := k
            refine aw_iald (ws_237 w) b18 d_X12_work_166 ?_
            refine aw_vi (v2 := (h_i h 237 ((x1 + (-1)) : Int32).toNatClampNeg)) (rfl) ?_
            refine aw_Si [.int (h_i h 231 ((h_i h 1 52) : Int32).toNatClampNeg), .int (h_i h 237 (((x1 + (-1)) - 1) : Int32).toNatClampNeg), .int (h_i h 237 ((x1 + (-1)) : Int32).toNatClampNeg)] [.int ((x1 + (-1)) - 1), .ref 237] d_X12_work_167 (cS_X12_both (d + 2) 0 0) tw_2432 rfl (rr0 (Nat.le_of_ble_eq_true rfl) (Nat.le_of_ble_eq_true rfl)) (Nat.le_of_ble_eq_true rfl) xs0 k (fun r21 h19 kk => ?_)
            obtain ⟨w20, k⟩ := kk
            obtain ⟨b22, k⟩ := k
            refine aw_iast (ws_237 w20) b22 d_X12_work_170 ?_
            refine aw_goto (tgt := 2) d_X12_work_171 rfl ?_
            exact aw_lvp [0, 1] [(0, .ref 1), (1, .int (x1 + (-1)))] rfl k
          · have k := k.2 c16
            refine aw_aload_n (i := 0) rfl d_X12_work_115 0 rfl ?_
            refine aw_getr (k0 := 51) kc_12 (ws_1 w) (Nat.le_of_ble_eq_true rfl) tw_1793 d_X12_work_116 rfl (wr_1_51 w) ?_
            refine aw_iload_n (i := 1) rfl d_X12_work_119 1 rfl ?_
            refine aw_iconst (v := 1) d_X12_work_120 ic_1 ?_
            refine aw_isub d_X12_work_121 ?_
            refine aw_aload_n (i := 0) rfl d_X12_work_122 0 rfl ?_
            refine aw_getr (k0 := 51) kc_12 (ws_1 w) (Nat.le_of_ble_eq_true rfl) tw_1793 d_X12_work_123 rfl (wr_1_51 w) ?_
            refine aw_iload_n (i := 1) rfl d_X12_work_126 1 rfl ?_
            refine aw_iconst (v := 1) d_X12_work_127 ic_1 ?_
            refine aw_isub d_X12_work_128 ?_
            obtain ⟨b23, k⟩ := k
            refine aw_iald (ws_237 w) b23 d_X12_work_129 ?_
            refine aw_vi (v2 := (h_i h 237 ((x1 - 1) : Int32).toNatClampNeg)) (rfl) ?_
            refine aw_if_ne (tgt := 137) d_X12_work_130 rfl (fun c24 => ?_) (fun c24 => ?_)
            · have k := k.1 c24
              refine aw_iconst (v := 0) d_X12_work_137 ic_0 ?_
              obtain ⟨b25, k⟩ := k
              refine aw_iast (ws_237 w) b25 d_X12_work_138 ?_
              refine aw_goto (tgt := 171) d_X12_work_139 rfl ?_
              refine aw_goto (tgt := 2) d_X12_work_171 rfl ?_
              exact aw_lvp [0, 1] [(0, .ref 1), (1, .int x1)] rfl k
            · have k := k.2 c24
              refine aw_iconst (v := 1) d_X12_work_133 ic_1 ?_
              refine aw_goto (tgt := 138) d_X12_work_134 rfl ?_
              obtain ⟨b26, k⟩ := k
              refine aw_iast (ws_237 w) b26 d_X12_work_138 ?_
              refine aw_goto (tgt := 171) d_X12_work_139 rfl ?_
              refine aw_goto (tgt := 2) d_X12_work_171 rfl ?_
              exact aw_lvp [0, 1] [(0, .ref 1), (1, .int x1)] rfl k
        · have k := k.2 c15
          refine aw_aload_n (i := 0) rfl d_X12_work_57 0 rfl ?_
          refine aw_getr (k0 := 51) kc_12 (ws_1 w) (Nat.le_of_ble_eq_true rfl) tw_1793 d_X12_work_58 rfl (wr_1_51 w) ?_
          refine aw_iload_n (i := 1) rfl d_X12_work_61 1 rfl ?_
          refine aw_iload_n (i := 2) rfl d_X12_work_62 2 rfl ?_
          refine aw_if_ne (tgt := 78) d_X12_work_63 rfl (fun c27 => ?_) (fun c27 => ?_)
          · have k := k.1 c27
            refine aw_aload_n (i := 0) rfl d_X12_work_78 0 rfl ?_
            refine aw_getr (k0 := 50) kc_12 (ws_1 w) (Nat.le_of_ble_eq_true rfl) tw_1792 d_X12_work_79 rfl (wr_1_50 w) ?_
            refine aw_aload_n (i := 0) rfl d_X12_work_82 0 rfl ?_
            refine aw_getr (k0 := 45) kc_12 (ws_1 w) (Nat.le_of_ble_eq_true rfl) tw_1787 d_X12_work_83 rfl (wr_1_45 w) ?_
            refine aw_aload_n (i := 0) rfl d_X12_work_86 0 rfl ?_
            refine aw_geti (k0 := 52) kc_12 (ws_1 w) (Nat.le_of_ble_eq_true rfl) tw_1794 d_X12_work_87 rfl ?_
            refine aw_vi (v2 := ((h_i h 1 52) + 1)) (rfl) ?_
            obtain ⟨b28, k⟩ := k
            refine aw_iald (ws_231 w) b28 d_X12_work_90 ?_
            refine aw_vi (v2 := (h_i h 231 (((h_i h 1 52) + 1) : Int32).toNatClampNeg)) (rfl) ?_
            obtain ⟨b29, k⟩ := k
            refine aw_iald (ws_236 w) b29 d_X12_work_91 ?_
            refine aw_vi (v2 := (h_i h 236 ((h_i h 231 (((h_i h 1 52) + 1) : Int32).toNatClampNeg) : Int32).toNatClampNeg)) (rfl) ?_
            obtain ⟨b30, k⟩ := k
            refine aw_iast (ws_237 w) b30 d_X12_work_92 ?_
            refine aw_aload_n (i := 0) rfl d_X12_work_93 0 rfl ?_
            refine aw_dup d_X12_work_94 rfl ?_
            refine aw_geti (k0 := 52) kc_12 (ws_1 w) (Nat.le_of_ble_eq_true rfl) tw_1794 d_X12_work_95 rfl ?_
            refine aw_vi (v2 := ((h_i h 1 52) + 1)) (rfl) ?_
            refine aw_iconst (v := 1) d_X12_work_98 ic_1 ?_
            refine aw_iadd d_X12_work_99 ?_
            refine aw_puti (k0 := 52) kc_12 (ws_1 w) (Nat.le_of_ble_eq_true rfl) tw_1794 d_X12_work_100 rfl rfl nf_i ?_
            refine aw_iinc (v := (x1 + 1)) [(0, .ref 1), (1, .int (x1 + 1)), (2, .int (h_i h 231 ((h_i h 1 52) : Int32).toNatClampNeg))] d_X12_work_103 1 rfl rfl (Nat.le_of_ble_eq_true rfl) rfl rfl ?_
            refine aw_goto (tgt := 171) d_X12_work_106 rfl ?_
            refine aw_goto (tgt := 2) d_X12_work_171 rfl ?_
            exact aw_lvp [0, 1] [(0, .ref 1), (1, .int (x1 + 1))] rfl k
          · have k := k.2 c27
            refine aw_aload_n (i := 0) rfl d_X12_work_66 0 rfl ?_
            refine aw_getr (k0 := 45) kc_12 (ws_1 w) (Nat.le_of_ble_eq_true rfl) tw_1787 d_X12_work_67 rfl (wr_1_45 w) ?_
            refine aw_aload_n (i := 0) rfl d_X12_work_70 0 rfl ?_
            refine aw_geti (k0 := 52) kc_12 (ws_1 w) (Nat.le_of_ble_eq_true rfl) tw_1794 d_X12_work_71 rfl ?_
            refine aw_vi (v2 := ((h_i h 1 52) + 1)) (rfl) ?_
            obtain ⟨b31, k⟩ := k
            refine aw_iald (ws_231 w) b31 d_X12_work_74 ?_
            refine aw_vi (v2 := (h_i h 231 (((h_i h 1 52) + 1) : Int32).toNatClampNeg)) (rfl) ?_
            refine aw_goto (tgt := 92) d_X12_work_75 rfl ?_
            obtain ⟨b32, k⟩ := k
            refine aw_iast (ws_237 w) b32 d_X12_work_92 ?_
            refine aw_aload_n (i := 0) rfl d_X12_work_93 0 rfl ?_
            refine aw_dup d_X12_work_94 rfl ?_
            refine aw_geti (k0 := 52) kc_12 (ws_1 w) (Nat.le_of_ble_eq_true rfl) tw_1794 d_X12_work_95 rfl ?_
            refine aw_vi (v2 := ((h_i h 1 52) + 1)) (rfl) ?_
            refine aw_iconst (v := 1) d_X12_work_98 ic_1 ?_
            refine aw_iadd d_X12_work_99 ?_
            refine aw_puti (k0 := 52) kc_12 (ws_1 w) (Nat.le_of_ble_eq_true rfl) tw_1794 d_X12_work_100 rfl rfl nf_i ?_
            refine aw_iinc (v := (x1 + 1)) [(0, .ref 1), (1, .int (x1 + 1)), (2, .int (h_i h 231 ((h_i h 1 52) : Int32).toNatClampNeg))] d_X12_work_103 1 rfl rfl (Nat.le_of_ble_eq_true rfl) rfl rfl ?_
            refine aw_goto (tgt := 171) d_X12_work_106 rfl ?_
            refine aw_goto (tgt := 2) d_X12_work_171 rfl ?_
            exact aw_lvp [0, 1] [(0, .ref 1), (1, .int (x1 + 1))] rfl k
theorem t_X12_tell (d : Nat) (h : Hp_) (w : Wf h) (x1 : Int32) (x2 : Int32) (K : Int32 → Hp_ → Prop) (k : (¬ x2 = (-1) → AW (m_X12_tell (d + 4) 0 0) 0 0 23 [(0, .ref 1), (3, .int ((20 * x1) + x2))] [] (h_im h 1 52 (560 * ((20 * x1) + x2))) (kI K)) ∧ (x2 = (-1) → K 0 h)) : Ci (m_X12_tell (d + 4) 0 0) [.ref 1, .int x1, .int x2] h K := by
  refine Ct.of (fun _ _ _ => trivial) rfl (Nat.le_of_ble_eq_true rfl) ?_
  show AW (m_X12_tell (d + 4) 0 0) 0 0 0 [(0, .ref 1), (1, .int x1), (2, .int x2)] [] h (kI K)
  refine aw_iload_n (i := 2) rfl d_X12_tell_0 2 rfl ?_
  refine aw_iconst (v := (-1)) d_X12_tell_1 ic_m1 ?_
  refine aw_icmp_ne (tgt := 7) d_X12_tell_2 rfl (fun c1 => ?_) (fun c1 => ?_)
  · have k := k.1 c1
    refine aw_bipush (v := 20) d_X12_tell_7 ib_20 ?_
    refine aw_iload_n (i := 1) rfl d_X12_tell_9 1 rfl ?_
    refine aw_imul d_X12_tell_10 ?_
    refine aw_iload_n (i := 2) rfl d_X12_tell_11 2 rfl ?_
    refine aw_iadd d_X12_tell_12 ?_
    refine aw_istore_n (i := 3) rfl [(0, .ref 1), (1, .int x1), (2, .int x2), (3, .int ((20 * x1) + x2))] d_X12_tell_13 (Nat.le_of_ble_eq_true rfl) rfl rfl ?_
    refine aw_aload_n (i := 0) rfl d_X12_tell_14 0 rfl ?_
    refine aw_sipush (v := 560) d_X12_tell_15 is_560 ?_
    refine aw_iload_n (i := 3) rfl d_X12_tell_18 3 rfl ?_
    refine aw_imul d_X12_tell_19 ?_
    refine aw_puti (k0 := 52) kc_12 (ws_1 w) (Nat.le_of_ble_eq_true rfl) tw_1794 d_X12_tell_20 rfl rfl nf_i ?_
    exact aw_lvp [0, 3] [(0, .ref 1), (3, .int ((20 * x1) + x2))] rfl k
  · have k := k.2 c1
    refine aw_iconst (v := 0) d_X12_tell_5 ic_0 ?_
    exact aw_iret rfl d_X12_tell_6 ⟨Nat.le_refl _, Nat.le_refl _⟩ ⟨_, rfl, k⟩
theorem t_X12_tell_23 (d : Nat) (h : Hp_) (w : Wf h) (x3 : Int32) (K : Int32 → Hp_ → Prop) (k : vp_in x3 40 ∧ ((((560 * x3) + (h_i h 232 x3.toNatClampNeg)) ≤ (h_i h 1 52) → K 0 h) ∧ (¬ ((560 * x3) + (h_i h 232 x3.toNatClampNeg)) ≤ (h_i h 1 52) → Ci (m_X12_work (d + 3) 0 0) [.ref 1] h (fun r6 h4 => Wf h4 ∧ ((r6 = 0 → Ci (m_X12_work (d + 3) 0 0) [.ref 1] h4 (fun r10 h8 => Wf h8 ∧ (AW (m_X12_tell (d + 4) 0 0) 0 0 23 [(0, .ref 1), (3, .int x3)] [] h8 (kI K)))) ∧ (¬ r6 = 0 → Ci (m_X12_work (d + 3) 0 0) [.ref 1] h4 (fun r14 h12 => Wf h12 ∧ (K r14 h12)))))))) : AW (m_X12_tell (d + 4) 0 0) 0 0 23 [(0, .ref 1), (3, .int x3)] [] h (kI K) := by
  refine aw_aload_n (i := 0) rfl d_X12_tell_23 0 rfl ?_
  refine aw_geti (k0 := 52) kc_12 (ws_1 w) (Nat.le_of_ble_eq_true rfl) tw_1794 d_X12_tell_24 rfl ?_
  refine aw_sipush (v := 560) d_X12_tell_27 is_560 ?_
  refine aw_iload_n (i := 3) rfl d_X12_tell_30 1 rfl ?_
  refine aw_imul d_X12_tell_31 ?_
  refine aw_aload_n (i := 0) rfl d_X12_tell_32 0 rfl ?_
  refine aw_getr (k0 := 46) kc_12 (ws_1 w) (Nat.le_of_ble_eq_true rfl) tw_1788 d_X12_tell_33 rfl (wr_1_46 w) ?_
  refine aw_iload_n (i := 3) rfl d_X12_tell_36 1 rfl ?_
  obtain ⟨b2, k⟩ := k
  refine aw_iald (ws_232 w) b2 d_X12_tell_37 ?_
  refine aw_iadd d_X12_tell_38 ?_
  refine aw_icmp_ge (tgt := 73) d_X12_tell_39 rfl (fun c3 => ?_) (fun c3 => ?_)
  · have k := k.1 c3
    refine aw_iconst (v := 0) d_X12_tell_73 ic_0 ?_
    exact aw_iret rfl d_X12_tell_74 ⟨Nat.le_refl _, Nat.le_refl _⟩ ⟨_, rfl, k⟩
  · have k := k.2 c3
    refine aw_aload_n (i := 0) rfl d_X12_tell_42 0 rfl ?_
    refine aw_Vi 1 [] [] d_X12_tell_43 (cV_X12_work (d + 3) 0 0) kc_12 (ws_1 w) tw_2428 rfl (rr0 (Nat.le_of_ble_eq_true rfl) (Nat.le_of_ble_eq_true rfl)) (Nat.le_of_ble_eq_true rfl) xs0 k (fun r6 h4 kk => ?_)
    obtain ⟨w5, k⟩ := kk
    refine aw_if_eq (tgt := 53) d_X12_tell_46 rfl (fun c7 => ?_) (fun c7 => ?_)
    · have k := k.1 c7
      refine aw_iconst (v := 0) d_X12_tell_53 ic_0 ?_
      refine aw_istore [(0, .ref 1), (3, .int x3), (4, .int 0)] d_X12_tell_54 (Nat.le_of_ble_eq_true rfl) rfl rfl ?_
      refine aw_aload_n (i := 0) rfl d_X12_tell_56 0 rfl ?_
      refine aw_Vi 1 [] [] d_X12_tell_57 (cV_X12_work (d + 3) 0 0) kc_12 (ws_1 w5) tw_2428 rfl (rr0 (Nat.le_of_ble_eq_true rfl) (Nat.le_of_ble_eq_true rfl)) (Nat.le_of_ble_eq_true rfl) xs0 k (fun r10 h8 kk => ?_)
      obtain ⟨w9, k⟩ := kk
      refine aw_istore [(0, .ref 1), (3, .int x3), (4, .int 0), (5, .int r10)] d_X12_tell_60 (Nat.le_of_ble_eq_true rfl) rfl rfl ?_
      refine aw_iload d_X12_tell_62 2 rfl ?_
      refine aw_if_eq (tgt := 70) d_X12_tell_64 rfl (fun _ => ?_) (fun c => absurd c (by decide))
      refine aw_goto (tgt := 23) d_X12_tell_70 rfl ?_
      exact aw_lvp [0, 1] [(0, .ref 1), (3, .int x3)] rfl k
    · have k := k.2 c7
      refine aw_iconst (v := 1) d_X12_tell_49 ic_1 ?_
      refine aw_goto (tgt := 54) d_X12_tell_50 rfl ?_
      refine aw_istore [(0, .ref 1), (3, .int x3), (4, .int 1)] d_X12_tell_54 (Nat.le_of_ble_eq_true rfl) rfl rfl ?_
      refine aw_aload_n (i := 0) rfl d_X12_tell_56 0 rfl ?_
      refine aw_Vi 1 [] [] d_X12_tell_57 (cV_X12_work (d + 3) 0 0) kc_12 (ws_1 w5) tw_2428 rfl (rr0 (Nat.le_of_ble_eq_true rfl) (Nat.le_of_ble_eq_true rfl)) (Nat.le_of_ble_eq_true rfl) xs0 k (fun r14 h12 kk => ?_)
      obtain ⟨w13, k⟩ := kk
      refine aw_istore [(0, .ref 1), (3, .int x3), (4, .int 1), (5, .int r14)] d_X12_tell_60 (Nat.le_of_ble_eq_true rfl) rfl rfl ?_
      refine aw_iload d_X12_tell_62 2 rfl ?_
      refine aw_if_eq (tgt := 70) d_X12_tell_64 rfl (fun c => absurd c (by decide)) (fun _ => ?_)
      refine aw_iload d_X12_tell_67 3 rfl ?_
      exact aw_iret rfl d_X12_tell_69 ⟨Nat.le_refl _, Nat.le_refl _⟩ ⟨_, rfl, k⟩
end
