theorem vin_c {x : Int32} {n : Nat} (h : ¬ (x < 0 ∨ n ≤ x.toNatClampNeg)) : vp_in x n := h
theorem mw_min : Cond.code Lib.Math.min.name Lib.Math.min.code 2 (some .int) ∈ lw_g := tw_552
theorem mw_max : Cond.code Lib.Math.max.name Lib.Math.max.code 2 (some .int) ∈ lw_g := tw_790
theorem aw_mmin {M : Mc_} {kc ks pc : Nat} {lv : List (Nat × Value)} {rest : List Value} {h : Hp_} {K : Option Value → Hp_ → Prop} {idx : Nat} {x y : Int32} (hd : decode (mC M) pc = .ok (.invokestatic idx, 3)) (hlk : Cond.methodLink (mY M).cls idx Lib.Math.min.name ∈ lw_g) (hfr : 1 ≤ (mR M).frames) (hlo : (rest.map (fun v => v.category)).sum + 13 ≤ (mR M).locals) (hk : kc ≤ (mR M).cells ∧ ks ≤ (mR M).slots) (k : AW M kc ks (pc + 3) lv (.int (if y < x then y else x) :: rest) h K) : AW M kc ks pc lv (.int y :: .int x :: rest) h K := by
  intro l p e s m args below meth c dC dI cy A ad0 adV ad dom0 dom H locs ls hf hX hT hE hW hS hl ho hs
  exact va_mmin hf.1 hf.2.1 (hf.2.2.1.trans hl.1.symm) hf.2.2.2.2.2.1 (hf.2.2.2.2.2.2.2.1 _ hlk) (hf.2.2.2.2.2.2.2.1 _ tw_551) (hf.2.2.2.2.2.2.2.1 _ tw_14) (hf.2.2.2.2.2.2.2.1 _ mw_min) hfr (by rw [cat_cv]; exact hlo) hk.1 hk.2 hd (k l p e s m args below meth c dC dI cy A ad0 adV ad dom0 dom H locs ls hf hX hT hE hW hS hl ho (ok_c ok_i (ok_t (ok_t hs))))
theorem aw_mmax {M : Mc_} {kc ks pc : Nat} {lv : List (Nat × Value)} {rest : List Value} {h : Hp_} {K : Option Value → Hp_ → Prop} {idx : Nat} {x y : Int32} (hd : decode (mC M) pc = .ok (.invokestatic idx, 3)) (hlk : Cond.methodLink (mY M).cls idx Lib.Math.max.name ∈ lw_g) (hfr : 1 ≤ (mR M).frames) (hlo : (rest.map (fun v => v.category)).sum + 13 ≤ (mR M).locals) (hk : kc ≤ (mR M).cells ∧ ks ≤ (mR M).slots) (k : AW M kc ks (pc + 3) lv (.int (if x < y then y else x) :: rest) h K) : AW M kc ks pc lv (.int y :: .int x :: rest) h K := by
  intro l p e s m args below meth c dC dI cy A ad0 adV ad dom0 dom H locs ls hf hX hT hE hW hS hl ho hs
  exact va_mmax hf.1 hf.2.1 (hf.2.2.1.trans hl.1.symm) hf.2.2.2.2.2.1 (hf.2.2.2.2.2.2.2.1 _ hlk) (hf.2.2.2.2.2.2.2.1 _ tw_789) (hf.2.2.2.2.2.2.2.1 _ tw_14) (hf.2.2.2.2.2.2.2.1 _ mw_max) hfr (by rw [cat_cv]; exact hlo) hk.1 hk.2 hd (k l p e s m args below meth c dC dI cy A ad0 adV ad dom0 dom H locs ls hf hX hT hE hW hS hl ho (ok_c ok_i (ok_t (ok_t hs))))
theorem t_X12_walkOf (d : Nat) (h : Hp_) (x1 : Int32) (x2 : Int32) (K : Int32 → Hp_ → Prop) (k : AW (m_X12_walkOf (d + 0) 0 0) 0 0 2 [(0, .ref 1), (1, .int x1), (2, .int x2), (3, .int 0)] [] h (kI K)) : Ci (m_X12_walkOf (d + 0) 0 0) [.ref 1, .int x1, .int x2] h K := by
  refine Ct.of (fun _ _ _ => trivial) rfl (Nat.le_of_ble_eq_true rfl) ?_
  show AW (m_X12_walkOf (d + 0) 0 0) 0 0 0 [(0, .ref 1), (1, .int x1), (2, .int x2)] [] h (kI K)
  refine aw_iconst (v := 0) d_X12_walkOf_0 ic_0 ?_
  refine aw_istore_n (i := 3) rfl [(0, .ref 1), (1, .int x1), (2, .int x2), (3, .int 0)] d_X12_walkOf_1 (Nat.le_of_ble_eq_true rfl) rfl rfl ?_
  exact k
theorem t_X12_walkOf_2 (d : Nat) (h : Hp_) (w : Wf h) (x1 : Int32) (x2 : Int32) (x3 : Int32) (K : Int32 → Hp_ → Prop) (k : (16 ≤ x3 → AW (m_X12_walkOf (d + 0) 0 0) 0 0 34 [(0, .ref 1), (2, .int x2), (3, .int 1)] [] h (kI K)) ∧ (¬ 16 ≤ x3 → (¬ x3 = x1 → vp_in x3 16 ∧ (AW (m_X12_walkOf (d + 0) 0 0) 0 0 2 [(0, .ref 1), (1, .int x1), (2, .int x2), (3, .int (x3 + 1))] [] (h_im h 203 x3.toNatClampNeg 100000) (kI K))) ∧ (x3 = x1 → vp_in x3 16 ∧ (AW (m_X12_walkOf (d + 0) 0 0) 0 0 2 [(0, .ref 1), (1, .int x1), (2, .int x2), (3, .int (x3 + 1))] [] (h_im h 203 x3.toNatClampNeg 0) (kI K))))) : AW (m_X12_walkOf (d + 0) 0 0) 0 0 2 [(0, .ref 1), (1, .int x1), (2, .int x2), (3, .int x3)] [] h (kI K) := by
  refine aw_iload_n (i := 3) rfl d_X12_walkOf_2 3 rfl ?_
  refine aw_bipush (v := 16) d_X12_walkOf_3 ib_16 ?_
  refine aw_icmp_ge (tgt := 32) d_X12_walkOf_5 rfl (fun c1 => ?_) (fun c1 => ?_)
  · have k := k.1 c1
    refine aw_iconst (v := 1) d_X12_walkOf_32 ic_1 ?_
    refine aw_istore_n (i := 3) rfl [(0, .ref 1), (1, .int x1), (2, .int x2), (3, .int 1)] d_X12_walkOf_33 (Nat.le_of_ble_eq_true rfl) rfl rfl ?_
    exact aw_lvp [0, 2, 3] [(0, .ref 1), (2, .int x2), (3, .int 1)] rfl k
  · have k := k.2 c1
    refine aw_aload_n (i := 0) rfl d_X12_walkOf_8 0 rfl ?_
    refine aw_getr (k0 := 5) kc_12 (ws_1 w) (Nat.le_of_ble_eq_true rfl) tw_1747 d_X12_walkOf_9 rfl (wr_1_5 w) ?_
    refine aw_iload_n (i := 3) rfl d_X12_walkOf_12 3 rfl ?_
    refine aw_iload_n (i := 3) rfl d_X12_walkOf_13 3 rfl ?_
    refine aw_iload_n (i := 1) rfl d_X12_walkOf_14 1 rfl ?_
    refine aw_icmp_ne (tgt := 22) d_X12_walkOf_15 rfl (fun c2 => ?_) (fun c2 => ?_)
    · have k := k.1 c2
      refine aw_ldcw (v := 100000) d_X12_walkOf_22 tw_2158 ?_
      obtain ⟨b3, k⟩ := k
      refine aw_iast (ws_203 w) b3 d_X12_walkOf_25 ?_
      refine aw_iinc (v := (x3 + 1)) [(0, .ref 1), (1, .int x1), (2, .int x2), (3, .int (x3 + 1))] d_X12_walkOf_26 3 rfl rfl (Nat.le_of_ble_eq_true rfl) rfl rfl ?_
      refine aw_goto (tgt := 2) d_X12_walkOf_29 rfl ?_
      exact k
    · have k := k.2 c2
      refine aw_iconst (v := 0) d_X12_walkOf_18 ic_0 ?_
      refine aw_goto (tgt := 25) d_X12_walkOf_19 rfl ?_
      obtain ⟨b4, k⟩ := k
      refine aw_iast (ws_203 w) b4 d_X12_walkOf_25 ?_
      refine aw_iinc (v := (x3 + 1)) [(0, .ref 1), (1, .int x1), (2, .int x2), (3, .int (x3 + 1))] d_X12_walkOf_26 3 rfl rfl (Nat.le_of_ble_eq_true rfl) rfl rfl ?_
      refine aw_goto (tgt := 2) d_X12_walkOf_29 rfl ?_
      exact k
theorem t_X12_walkOf_34 (d : Nat) (h : Hp_) (w : Wf h) (x2 : Int32) (x3 : Int32) (K : Int32 → Hp_ → Prop) (k : (x3 = 0 → vp_in x2 16 ∧ (((h_i h 203 x2.toNatClampNeg) < 100000 → vp_in x2 16 ∧ (K (h_i h 203 x2.toNatClampNeg) h)) ∧ (¬ (h_i h 203 x2.toNatClampNeg) < 100000 → K (-1) h))) ∧ (¬ x3 = 0 → AW (m_X12_walkOf (d + 0) 0 0) 0 0 43 [(0, .ref 1), (2, .int x2), (3, .int 0), (4, .int 0)] [] h (kI K))) : AW (m_X12_walkOf (d + 0) 0 0) 0 0 34 [(0, .ref 1), (2, .int x2), (3, .int x3)] [] h (kI K) := by
  refine aw_iload_n (i := 3) rfl d_X12_walkOf_34 2 rfl ?_
  refine aw_if_eq (tgt := 177) d_X12_walkOf_35 rfl (fun c5 => ?_) (fun c5 => ?_)
  · have k := k.1 c5
    refine aw_aload_n (i := 0) rfl d_X12_walkOf_177 0 rfl ?_
    refine aw_getr (k0 := 5) kc_12 (ws_1 w) (Nat.le_of_ble_eq_true rfl) tw_1747 d_X12_walkOf_178 rfl (wr_1_5 w) ?_
    refine aw_iload_n (i := 2) rfl d_X12_walkOf_181 1 rfl ?_
    obtain ⟨b6, k⟩ := k
    refine aw_iald (ws_203 w) b6 d_X12_walkOf_182 ?_
    refine aw_ldcw (v := 100000) d_X12_walkOf_183 tw_2158 ?_
    refine aw_icmp_lt (tgt := 193) d_X12_walkOf_186 rfl (fun c7 => ?_) (fun c7 => ?_)
    · have k := k.1 c7
      refine aw_aload_n (i := 0) rfl d_X12_walkOf_193 0 rfl ?_
      refine aw_getr (k0 := 5) kc_12 (ws_1 w) (Nat.le_of_ble_eq_true rfl) tw_1747 d_X12_walkOf_194 rfl (wr_1_5 w) ?_
      refine aw_iload_n (i := 2) rfl d_X12_walkOf_197 1 rfl ?_
      obtain ⟨b8, k⟩ := k
      refine aw_iald (ws_203 w) b8 d_X12_walkOf_198 ?_
      exact aw_iret rfl d_X12_walkOf_199 ⟨Nat.le_refl _, Nat.le_refl _⟩ ⟨_, rfl, k⟩
    · have k := k.2 c7
      refine aw_iconst (v := (-1)) d_X12_walkOf_189 ic_m1 ?_
      refine aw_goto (tgt := 199) d_X12_walkOf_190 rfl ?_
      exact aw_iret rfl d_X12_walkOf_199 ⟨Nat.le_refl _, Nat.le_refl _⟩ ⟨_, rfl, k⟩
  · have k := k.2 c5
    refine aw_iconst (v := 0) d_X12_walkOf_38 ic_0 ?_
    refine aw_istore_n (i := 3) rfl [(0, .ref 1), (2, .int x2), (3, .int 0)] d_X12_walkOf_39 (Nat.le_of_ble_eq_true rfl) rfl rfl ?_
    refine aw_iconst (v := 0) d_X12_walkOf_40 ic_0 ?_
    refine aw_istore [(0, .ref 1), (2, .int x2), (3, .int 0), (4, .int 0)] d_X12_walkOf_41 (Nat.le_of_ble_eq_true rfl) rfl rfl ?_
    exact k
theorem t_X12_walkOf_43 (d : Nat) (h : Hp_) (w : Wf h) (x2 : Int32) (x3 : Int32) (x4 : Int32) (K : Int32 → Hp_ → Prop) (k : ((h_i h 1 6) ≤ x4 → AW (m_X12_walkOf (d + 0) 0 0) 0 0 34 [(0, .ref 1), (2, .int x2), (3, .int x3)] [] h (kI K)) ∧ (¬ (h_i h 1 6) ≤ x4 → vp_in x4 40 ∧ (vp_in x4 40 ∧ (vp_in (h_i h 200 x4.toNatClampNeg) 16 ∧ (vp_in x4 40 ∧ (vp_in (h_i h 201 x4.toNatClampNeg) 16 ∧ (((h_i h 203 ((h_i h 201 x4.toNatClampNeg) : Int32).toNatClampNeg) ≤ ((h_i h 203 ((h_i h 200 x4.toNatClampNeg) : Int32).toNatClampNeg) + (h_i h 202 x4.toNatClampNeg)) → vp_in (h_i h 201 x4.toNatClampNeg) 16 ∧ (vp_in x4 40 ∧ (vp_in (h_i h 200 x4.toNatClampNeg) 16 ∧ (((h_i h 203 ((h_i h 200 x4.toNatClampNeg) : Int32).toNatClampNeg) ≤ ((h_i h 203 ((h_i h 201 x4.toNatClampNeg) : Int32).toNatClampNeg) + (h_i h 202 x4.toNatClampNeg)) → AW (m_X12_walkOf (d + 0) 0 0) 0 0 43 [(0, .ref 1), (2, .int x2), (3, .int x3), (4, .int (x4 + 1))] [] h (kI K)) ∧ (¬ (h_i h 203 ((h_i h 200 x4.toNatClampNeg) : Int32).toNatClampNeg) ≤ ((h_i h 203 ((h_i h 201 x4.toNatClampNeg) : Int32).toNatClampNeg) + (h_i h 202 x4.toNatClampNeg)) → vp_in (h_i h 201 x4.toNatClampNeg) 16 ∧ (vp_in x4 40 ∧ (vp_in (h_i h 200 x4.toNatClampNeg) 16 ∧ (AW (m_X12_walkOf (d + 0) 0 0) 0 0 43 [(0, .ref 1), (2, .int x2), (3, .int 1), (4, .int (x4 + 1))] [] (h_im h 203 ((h_i h 200 x4.toNatClampNeg) : Int32).toNatClampNeg ((h_i h 203 ((h_i h 201 x4.toNatClampNeg) : Int32).toNatClampNeg) + (h_i h 202 x4.toNatClampNeg))) (kI K))))))))) ∧ (¬ (h_i h 203 ((h_i h 201 x4.toNatClampNeg) : Int32).toNatClampNeg) ≤ ((h_i h 203 ((h_i h 200 x4.toNatClampNeg) : Int32).toNatClampNeg) + (h_i h 202 x4.toNatClampNeg)) → vp_in (h_i h 200 x4.toNatClampNeg) 16 ∧ (vp_in x4 40 ∧ (vp_in (h_i h 201 x4.toNatClampNeg) 16 ∧ (vp_in (h_i h 201 x4.toNatClampNeg) 16 ∧ (vp_in x4 40 ∧ (vp_in (h_i h 200 x4.toNatClampNeg) 16 ∧ (((h_i (h_im h 203 ((h_i h 201 x4.toNatClampNeg) : Int32).toNatClampNeg ((h_i h 203 ((h_i h 200 x4.toNatClampNeg) : Int32).toNatClampNeg) + (h_i h 202 x4.toNatClampNeg))) 203 ((h_i h 200 x4.toNatClampNeg) : Int32).toNatClampNeg) ≤ (((h_i h 203 ((h_i h 200 x4.toNatClampNeg) : Int32).toNatClampNeg) + (h_i h 202 x4.toNatClampNeg)) + (h_i h 202 x4.toNatClampNeg)) → AW (m_X12_walkOf (d + 0) 0 0) 0 0 43 [(0, .ref 1), (2, .int x2), (3, .int 1), (4, .int (x4 + 1))] [] (h_im h 203 ((h_i h 201 x4.toNatClampNeg) : Int32).toNatClampNeg ((h_i h 203 ((h_i h 200 x4.toNatClampNeg) : Int32).toNatClampNeg) + (h_i h 202 x4.toNatClampNeg))) (kI K)) ∧ (¬ (h_i (h_im h 203 ((h_i h 201 x4.toNatClampNeg) : Int32).toNatClampNeg ((h_i h 203 ((h_i h 200 x4.toNatClampNeg) : Int32).toNatClampNeg) + (h_i h 202 x4.toNatClampNeg))) 203 ((h_i h 200 x4.toNatClampNeg) : Int32).toNatClampNeg) ≤ (((h_i h 203 ((h_i h 200 x4.toNatClampNeg) : Int32).toNatClampNeg) + (h_i h 202 x4.toNatClampNeg)) + (h_i h 202 x4.toNatClampNeg)) → vp_in (h_i h 201 x4.toNatClampNeg) 16 ∧ (vp_in x4 40 ∧ (vp_in (h_i h 200 x4.toNatClampNeg) 16 ∧ (AW (m_X12_walkOf (d + 0) 0 0) 0 0 43 [(0, .ref 1), (2, .int x2), (3, .int 1), (4, .int (x4 + 1))] [] (h_im (h_im h 203 ((h_i h 201 x4.toNatClampNeg) : Int32).toNatClampNeg ((h_i h 203 ((h_i h 200 x4.toNatClampNeg) : Int32).toNatClampNeg) + (h_i h 202 x4.toNatClampNeg))) 203 ((h_i h 200 x4.toNatClampNeg) : Int32).toNatClampNeg (((h_i h 203 ((h_i h 200 x4.toNatClampNeg) : Int32).toNatClampNeg) + (h_i h 202 x4.toNatClampNeg)) + (h_i h 202 x4.toNatClampNeg))) (kI K))))))))))))))))))) : AW (m_X12_walkOf (d + 0) 0 0) 0 0 43 [(0, .ref 1), (2, .int x2), (3, .int x3), (4, .int x4)] [] h (kI K) := by
  refine aw_iload d_X12_walkOf_43 3 rfl ?_
  refine aw_aload_n (i := 0) rfl d_X12_walkOf_45 0 rfl ?_
  refine aw_geti (k0 := 6) kc_12 (ws_1 w) (Nat.le_of_ble_eq_true rfl) tw_1748 d_X12_walkOf_46 rfl ?_
  refine aw_icmp_ge (tgt := 174) d_X12_walkOf_49 rfl (fun c9 => ?_) (fun c9 => ?_)
  · have k := k.1 c9
    refine aw_goto (tgt := 34) d_X12_walkOf_174 rfl ?_
    exact aw_lvp [0, 1, 2] [(0, .ref 1), (2, .int x2), (3, .int x3)] rfl k
  · have k := k.2 c9
    refine aw_aload_n (i := 0) rfl d_X12_walkOf_52 0 rfl ?_
    refine aw_getr (k0 := 2) kc_12 (ws_1 w) (Nat.le_of_ble_eq_true rfl) tw_1744 d_X12_walkOf_53 rfl (wr_1_2 w) ?_
    refine aw_iload d_X12_walkOf_56 3 rfl ?_
    obtain ⟨b10, k⟩ := k
    refine aw_iald (ws_200 w) b10 d_X12_walkOf_58 ?_
    refine aw_istore [(0, .ref 1), (2, .int x2), (3, .int x3), (4, .int x4), (5, .int (h_i h 200 x4.toNatClampNeg))] d_X12_walkOf_59 (Nat.le_of_ble_eq_true rfl) rfl rfl ?_
    refine aw_aload_n (i := 0) rfl d_X12_walkOf_61 0 rfl ?_
    refine aw_getr (k0 := 3) kc_12 (ws_1 w) (Nat.le_of_ble_eq_true rfl) tw_1745 d_X12_walkOf_62 rfl (wr_1_3 w) ?_
    refine aw_iload d_X12_walkOf_65 3 rfl ?_
    obtain ⟨b11, k⟩ := k
    refine aw_iald (ws_201 w) b11 d_X12_walkOf_67 ?_
    refine aw_istore [(0, .ref 1), (2, .int x2), (3, .int x3), (4, .int x4), (5, .int (h_i h 200 x4.toNatClampNeg)), (6, .int (h_i h 201 x4.toNatClampNeg))] d_X12_walkOf_68 (Nat.le_of_ble_eq_true rfl) rfl rfl ?_
    refine aw_aload_n (i := 0) rfl d_X12_walkOf_70 0 rfl ?_
    refine aw_getr (k0 := 5) kc_12 (ws_1 w) (Nat.le_of_ble_eq_true rfl) tw_1747 d_X12_walkOf_71 rfl (wr_1_5 w) ?_
    refine aw_iload d_X12_walkOf_74 4 rfl ?_
    obtain ⟨b12, k⟩ := k
    refine aw_iald (ws_203 w) b12 d_X12_walkOf_76 ?_
    refine aw_aload_n (i := 0) rfl d_X12_walkOf_77 0 rfl ?_
    refine aw_getr (k0 := 4) kc_12 (ws_1 w) (Nat.le_of_ble_eq_true rfl) tw_1746 d_X12_walkOf_78 rfl (wr_1_4 w) ?_
    refine aw_iload d_X12_walkOf_81 3 rfl ?_
    obtain ⟨b13, k⟩ := k
    refine aw_iald (ws_202 w) b13 d_X12_walkOf_83 ?_
    refine aw_iadd d_X12_walkOf_84 ?_
    refine aw_aload_n (i := 0) rfl d_X12_walkOf_85 0 rfl ?_
    refine aw_getr (k0 := 5) kc_12 (ws_1 w) (Nat.le_of_ble_eq_true rfl) tw_1747 d_X12_walkOf_86 rfl (wr_1_5 w) ?_
    refine aw_iload d_X12_walkOf_89 5 rfl ?_
    obtain ⟨b14, k⟩ := k
    refine aw_iald (ws_203 w) b14 d_X12_walkOf_91 ?_
    refine aw_icmp_ge (tgt := 119) d_X12_walkOf_92 rfl (fun c15 => ?_) (fun c15 => ?_)
    · have k := k.1 c15
      refine aw_aload_n (i := 0) rfl d_X12_walkOf_119 0 rfl ?_
      refine aw_getr (k0 := 5) kc_12 (ws_1 w) (Nat.le_of_ble_eq_true rfl) tw_1747 d_X12_walkOf_120 rfl (wr_1_5 w) ?_
      refine aw_iload d_X12_walkOf_123 5 rfl ?_
      obtain ⟨b16, k⟩ := k
      refine aw_iald (ws_203 w) b16 d_X12_walkOf_125 ?_
      refine aw_aload_n (i := 0) rfl d_X12_walkOf_126 0 rfl ?_
      refine aw_getr (k0 := 4) kc_12 (ws_1 w) (Nat.le_of_ble_eq_true rfl) tw_1746 d_X12_walkOf_127 rfl (wr_1_4 w) ?_
      refine aw_iload d_X12_walkOf_130 3 rfl ?_
      obtain ⟨b17, k⟩ := k
      refine aw_iald (ws_202 w) b17 d_X12_walkOf_132 ?_
      refine aw_iadd d_X12_walkOf_133 ?_
      refine aw_aload_n (i := 0) rfl d_X12_walkOf_134 0 rfl ?_
      refine aw_getr (k0 := 5) kc_12 (ws_1 w) (Nat.le_of_ble_eq_true rfl) tw_1747 d_X12_walkOf_135 rfl (wr_1_5 w) ?_
      refine aw_iload d_X12_walkOf_138 4 rfl ?_
      obtain ⟨b18, k⟩ := k
      refine aw_iald (ws_203 w) b18 d_X12_walkOf_140 ?_
      refine aw_icmp_ge (tgt := 168) d_X12_walkOf_141 rfl (fun c19 => ?_) (fun c19 => ?_)
      · have k := k.1 c19
        refine aw_iinc (v := (x4 + 1)) [(0, .ref 1), (2, .int x2), (3, .int x3), (4, .int (x4 + 1)), (5, .int (h_i h 200 x4.toNatClampNeg)), (6, .int (h_i h 201 x4.toNatClampNeg))] d_X12_walkOf_168 3 rfl rfl (Nat.le_of_ble_eq_true rfl) rfl rfl ?_
        refine aw_goto (tgt := 43) d_X12_walkOf_171 rfl ?_
        exact aw_lvp [0, 1, 2, 3] [(0, .ref 1), (2, .int x2), (3, .int x3), (4, .int (x4 + 1))] rfl k
      · have k := k.2 c19
        refine aw_aload_n (i := 0) rfl d_X12_walkOf_144 0 rfl ?_
        refine aw_getr (k0 := 5) kc_12 (ws_1 w) (Nat.le_of_ble_eq_true rfl) tw_1747 d_X12_walkOf_145 rfl (wr_1_5 w) ?_
        refine aw_iload d_X12_walkOf_148 4 rfl ?_
        refine aw_aload_n (i := 0) rfl d_X12_walkOf_150 0 rfl ?_
        refine aw_getr (k0 := 5) kc_12 (ws_1 w) (Nat.le_of_ble_eq_true rfl) tw_1747 d_X12_walkOf_151 rfl (wr_1_5 w) ?_
        refine aw_iload d_X12_walkOf_154 5 rfl ?_
        obtain ⟨b20, k⟩ := k
        refine aw_iald (ws_203 w) b20 d_X12_walkOf_156 ?_
        refine aw_aload_n (i := 0) rfl d_X12_walkOf_157 0 rfl ?_
        refine aw_getr (k0 := 4) kc_12 (ws_1 w) (Nat.le_of_ble_eq_true rfl) tw_1746 d_X12_walkOf_158 rfl (wr_1_4 w) ?_
        refine aw_iload d_X12_walkOf_161 3 rfl ?_
        obtain ⟨b21, k⟩ := k
        refine aw_iald (ws_202 w) b21 d_X12_walkOf_163 ?_
        refine aw_iadd d_X12_walkOf_164 ?_
        obtain ⟨b22, k⟩ := k
        refine aw_iast (ws_203 w) b22 d_X12_walkOf_165 ?_
        refine aw_iconst (v := 1) d_X12_walkOf_166 ic_1 ?_
        refine aw_istore_n (i := 3) rfl [(0, .ref 1), (2, .int x2), (3, .int 1), (4, .int x4), (5, .int (h_i h 200 x4.toNatClampNeg)), (6, .int (h_i h 201 x4.toNatClampNeg))] d_X12_walkOf_167 (Nat.le_of_ble_eq_true rfl) rfl rfl ?_
        refine aw_iinc (v := (x4 + 1)) [(0, .ref 1), (2, .int x2), (3, .int 1), (4, .int (x4 + 1)), (5, .int (h_i h 200 x4.toNatClampNeg)), (6, .int (h_i h 201 x4.toNatClampNeg))] d_X12_walkOf_168 3 rfl rfl (Nat.le_of_ble_eq_true rfl) rfl rfl ?_
        refine aw_goto (tgt := 43) d_X12_walkOf_171 rfl ?_
        exact aw_lvp [0, 1, 2, 3] [(0, .ref 1), (2, .int x2), (3, .int 1), (4, .int (x4 + 1))] rfl k
    · have k := k.2 c15
      refine aw_aload_n (i := 0) rfl d_X12_walkOf_95 0 rfl ?_
      refine aw_getr (k0 := 5) kc_12 (ws_1 w) (Nat.le_of_ble_eq_true rfl) tw_1747 d_X12_walkOf_96 rfl (wr_1_5 w) ?_
      refine aw_iload d_X12_walkOf_99 5 rfl ?_
      refine aw_aload_n (i := 0) rfl d_X12_walkOf_101 0 rfl ?_
      refine aw_getr (k0 := 5) kc_12 (ws_1 w) (Nat.le_of_ble_eq_true rfl) tw_1747 d_X12_walkOf_102 rfl (wr_1_5 w) ?_
      refine aw_iload d_X12_walkOf_105 4 rfl ?_
      obtain ⟨b23, k⟩ := k
      refine aw_iald (ws_203 w) b23 d_X12_walkOf_107 ?_
      refine aw_aload_n (i := 0) rfl d_X12_walkOf_108 0 rfl ?_
      refine aw_getr (k0 := 4) kc_12 (ws_1 w) (Nat.le_of_ble_eq_true rfl) tw_1746 d_X12_walkOf_109 rfl (wr_1_4 w) ?_
      refine aw_iload d_X12_walkOf_112 3 rfl ?_
      obtain ⟨b24, k⟩ := k
      refine aw_iald (ws_202 w) b24 d_X12_walkOf_114 ?_
      refine aw_iadd d_X12_walkOf_115 ?_
      obtain ⟨b25, k⟩ := k
      refine aw_iast (ws_203 w) b25 d_X12_walkOf_116 ?_
      refine aw_iconst (v := 1) d_X12_walkOf_117 ic_1 ?_
      refine aw_istore_n (i := 3) rfl [(0, .ref 1), (2, .int x2), (3, .int 1), (4, .int x4), (5, .int (h_i h 200 x4.toNatClampNeg)), (6, .int (h_i h 201 x4.toNatClampNeg))] d_X12_walkOf_118 (Nat.le_of_ble_eq_true rfl) rfl rfl ?_
      refine aw_aload_n (i := 0) rfl d_X12_walkOf_119 0 rfl ?_
      refine aw_getr (k0 := 5) kc_12 (ws_1 w) (Nat.le_of_ble_eq_true rfl) tw_1747 d_X12_walkOf_120 rfl (wr_1_5 w) ?_
      refine aw_iload d_X12_walkOf_123 5 rfl ?_
      obtain ⟨b26, k⟩ := k
      refine aw_iald (ws_203 w) b26 d_X12_walkOf_125 ?_
      refine aw_vi (v2 := ((h_i h 203 ((h_i h 200 x4.toNatClampNeg) : Int32).toNatClampNeg) + (h_i h 202 x4.toNatClampNeg))) (hi_s h 203 ((h_i h 201 x4.toNatClampNeg) : Int32).toNatClampNeg ((h_i h 203 ((h_i h 200 x4.toNatClampNeg) : Int32).toNatClampNeg) + (h_i h 202 x4.toNatClampNeg))) ?_
      refine aw_aload_n (i := 0) rfl d_X12_walkOf_126 0 rfl ?_
      refine aw_getr (k0 := 4) kc_12 (ws_1 w) (Nat.le_of_ble_eq_true rfl) tw_1746 d_X12_walkOf_127 rfl (wr_1_4 w) ?_
      refine aw_iload d_X12_walkOf_130 3 rfl ?_
      obtain ⟨b27, k⟩ := k
      refine aw_iald (ws_202 w) b27 d_X12_walkOf_132 ?_
      refine aw_vi (v2 := (h_i h 202 x4.toNatClampNeg)) (rfl) ?_
      refine aw_iadd d_X12_walkOf_133 ?_
      refine aw_aload_n (i := 0) rfl d_X12_walkOf_134 0 rfl ?_
      refine aw_getr (k0 := 5) kc_12 (ws_1 w) (Nat.le_of_ble_eq_true rfl) tw_1747 d_X12_walkOf_135 rfl (wr_1_5 w) ?_
      refine aw_iload d_X12_walkOf_138 4 rfl ?_
      obtain ⟨b28, k⟩ := k
      refine aw_iald (ws_203 w) b28 d_X12_walkOf_140 ?_
      refine aw_icmp_ge (tgt := 168) d_X12_walkOf_141 rfl (fun c29 => ?_) (fun c29 => ?_)
      · have k := k.1 c29
        refine aw_iinc (v := (x4 + 1)) [(0, .ref 1), (2, .int x2), (3, .int 1), (4, .int (x4 + 1)), (5, .int (h_i h 200 x4.toNatClampNeg)), (6, .int (h_i h 201 x4.toNatClampNeg))] d_X12_walkOf_168 3 rfl rfl (Nat.le_of_ble_eq_true rfl) rfl rfl ?_
        refine aw_goto (tgt := 43) d_X12_walkOf_171 rfl ?_
        exact aw_lvp [0, 1, 2, 3] [(0, .ref 1), (2, .int x2), (3, .int 1), (4, .int (x4 + 1))] rfl k
      · have k := k.2 c29
        refine aw_aload_n (i := 0) rfl d_X12_walkOf_144 0 rfl ?_
        refine aw_getr (k0 := 5) kc_12 (ws_1 w) (Nat.le_of_ble_eq_true rfl) tw_1747 d_X12_walkOf_145 rfl (wr_1_5 w) ?_
        refine aw_iload d_X12_walkOf_148 4 rfl ?_
        refine aw_aload_n (i := 0) rfl d_X12_walkOf_150 0 rfl ?_
        refine aw_getr (k0 := 5) kc_12 (ws_1 w) (Nat.le_of_ble_eq_true rfl) tw_1747 d_X12_walkOf_151 rfl (wr_1_5 w) ?_
        refine aw_iload d_X12_walkOf_154 5 rfl ?_
        obtain ⟨b30, k⟩ := k
        refine aw_iald (ws_203 w) b30 d_X12_walkOf_156 ?_
        refine aw_vi (v2 := ((h_i h 203 ((h_i h 200 x4.toNatClampNeg) : Int32).toNatClampNeg) + (h_i h 202 x4.toNatClampNeg))) (hi_s h 203 ((h_i h 201 x4.toNatClampNeg) : Int32).toNatClampNeg ((h_i h 203 ((h_i h 200 x4.toNatClampNeg) : Int32).toNatClampNeg) + (h_i h 202 x4.toNatClampNeg))) ?_
        refine aw_aload_n (i := 0) rfl d_X12_walkOf_157 0 rfl ?_
        refine aw_getr (k0 := 4) kc_12 (ws_1 w) (Nat.le_of_ble_eq_true rfl) tw_1746 d_X12_walkOf_158 rfl (wr_1_4 w) ?_
        refine aw_iload d_X12_walkOf_161 3 rfl ?_
        obtain ⟨b31, k⟩ := k
        refine aw_iald (ws_202 w) b31 d_X12_walkOf_163 ?_
        refine aw_vi (v2 := (h_i h 202 x4.toNatClampNeg)) (rfl) ?_
        refine aw_iadd d_X12_walkOf_164 ?_
        obtain ⟨b32, k⟩ := k
        refine aw_iast (ws_203 w) b32 d_X12_walkOf_165 ?_
        refine aw_iconst (v := 1) d_X12_walkOf_166 ic_1 ?_
        refine aw_istore_n (i := 3) rfl [(0, .ref 1), (2, .int x2), (3, .int 1), (4, .int x4), (5, .int (h_i h 200 x4.toNatClampNeg)), (6, .int (h_i h 201 x4.toNatClampNeg))] d_X12_walkOf_167 (Nat.le_of_ble_eq_true rfl) rfl rfl ?_
        refine aw_iinc (v := (x4 + 1)) [(0, .ref 1), (2, .int x2), (3, .int 1), (4, .int (x4 + 1)), (5, .int (h_i h 200 x4.toNatClampNeg)), (6, .int (h_i h 201 x4.toNatClampNeg))] d_X12_walkOf_168 3 rfl rfl (Nat.le_of_ble_eq_true rfl) rfl rfl ?_
        refine aw_goto (tgt := 43) d_X12_walkOf_171 rfl ?_
        exact aw_lvp [0, 1, 2, 3] [(0, .ref 1), (2, .int x2), (3, .int 1), (4, .int (x4 + 1))] rfl k
theorem t_X12_byteOf (d : Nat) (h : Hp_) (x0 : Int32) (x1 : Int32) (x2 : Int32) (x3 : Int32) (x4 : Int32) (x5 : Int32) (K : Int32 → Hp_ → Prop) (k : (4 ≤ x5 → (8 ≤ x5 → (12 ≤ x5 → (16 ≤ x5 → K ((x4 >>> ((24 - (8 * (x5 - x5 / 4 * 4))) &&& 31)) &&& 255) h) ∧ (¬ 16 ≤ x5 → K ((x3 >>> ((24 - (8 * (x5 - x5 / 4 * 4))) &&& 31)) &&& 255) h)) ∧ (¬ 12 ≤ x5 → K ((x2 >>> ((24 - (8 * (x5 - x5 / 4 * 4))) &&& 31)) &&& 255) h)) ∧ (¬ 8 ≤ x5 → K ((x1 >>> ((24 - (8 * (x5 - x5 / 4 * 4))) &&& 31)) &&& 255) h)) ∧ (¬ 4 ≤ x5 → K ((x0 >>> ((24 - (8 * (x5 - x5 / 4 * 4))) &&& 31)) &&& 255) h)) : Ci (m_X12_byteOf (d + 0) 0 0) [.int x0, .int x1, .int x2, .int x3, .int x4, .int x5] h K := by
  refine Ct.of (fun _ _ _ => trivial) rfl (Nat.le_of_ble_eq_true rfl) ?_
  show AW (m_X12_byteOf (d + 0) 0 0) 0 0 0 [(0, .int x0), (1, .int x1), (2, .int x2), (3, .int x3), (4, .int x4), (5, .int x5)] [] h (kI K)
  refine aw_iload d_X12_byteOf_0 5 rfl ?_
  refine aw_iconst (v := 4) d_X12_byteOf_2 ic_4 ?_
  refine aw_icmp_ge (tgt := 10) d_X12_byteOf_3 rfl (fun c1 => ?_) (fun c1 => ?_)
  · have k := k.1 c1
    refine aw_iload d_X12_byteOf_10 5 rfl ?_
    refine aw_bipush (v := 8) d_X12_byteOf_12 ib_8 ?_
    refine aw_icmp_ge (tgt := 21) d_X12_byteOf_14 rfl (fun c2 => ?_) (fun c2 => ?_)
    · have k := k.1 c2
      refine aw_iload d_X12_byteOf_21 5 rfl ?_
      refine aw_bipush (v := 12) d_X12_byteOf_23 ib_12 ?_
      refine aw_icmp_ge (tgt := 32) d_X12_byteOf_25 rfl (fun c3 => ?_) (fun c3 => ?_)
      · have k := k.1 c3
        refine aw_iload d_X12_byteOf_32 5 rfl ?_
        refine aw_bipush (v := 16) d_X12_byteOf_34 ib_16 ?_
        refine aw_icmp_ge (tgt := 43) d_X12_byteOf_36 rfl (fun c4 => ?_) (fun c4 => ?_)
        · have k := k.1 c4
          refine aw_iload d_X12_byteOf_43 4 rfl ?_
          refine aw_istore [(0, .int x0), (1, .int x1), (2, .int x2), (3, .int x3), (4, .int x4), (5, .int x5), (6, .int x4)] d_X12_byteOf_45 (Nat.le_of_ble_eq_true rfl) rfl rfl ?_
          refine aw_iload d_X12_byteOf_47 6 rfl ?_
          refine aw_bipush (v := 24) d_X12_byteOf_49 ib_24 ?_
          refine aw_bipush (v := 8) d_X12_byteOf_51 ib_8 ?_
          refine aw_iload d_X12_byteOf_53 5 rfl ?_
          refine aw_iconst (v := 4) d_X12_byteOf_55 ic_4 ?_
          refine aw_irem d_X12_byteOf_56 (by decide) ?_
          refine aw_imul d_X12_byteOf_57 ?_
          refine aw_isub d_X12_byteOf_58 ?_
          refine aw_ishr d_X12_byteOf_59 ?_
          refine aw_sipush (v := 255) d_X12_byteOf_60 is_255 ?_
          refine aw_iand d_X12_byteOf_63 ?_
          exact aw_iret rfl d_X12_byteOf_64 ⟨Nat.le_refl _, Nat.le_refl _⟩ ⟨_, rfl, k⟩
        · have k := k.2 c4
          refine aw_iload_n (i := 3) rfl d_X12_byteOf_39 3 rfl ?_
          refine aw_goto (tgt := 45) d_X12_byteOf_40 rfl ?_
          refine aw_istore [(0, .int x0), (1, .int x1), (2, .int x2), (3, .int x3), (4, .int x4), (5, .int x5), (6, .int x3)] d_X12_byteOf_45 (Nat.le_of_ble_eq_true rfl) rfl rfl ?_
          refine aw_iload d_X12_byteOf_47 6 rfl ?_
          refine aw_bipush (v := 24) d_X12_byteOf_49 ib_24 ?_
          refine aw_bipush (v := 8) d_X12_byteOf_51 ib_8 ?_
          refine aw_iload d_X12_byteOf_53 5 rfl ?_
          refine aw_iconst (v := 4) d_X12_byteOf_55 ic_4 ?_
          refine aw_irem d_X12_byteOf_56 (by decide) ?_
          refine aw_imul d_X12_byteOf_57 ?_
          refine aw_isub d_X12_byteOf_58 ?_
          refine aw_ishr d_X12_byteOf_59 ?_
          refine aw_sipush (v := 255) d_X12_byteOf_60 is_255 ?_
          refine aw_iand d_X12_byteOf_63 ?_
          exact aw_iret rfl d_X12_byteOf_64 ⟨Nat.le_refl _, Nat.le_refl _⟩ ⟨_, rfl, k⟩
      · have k := k.2 c3
        refine aw_iload_n (i := 2) rfl d_X12_byteOf_28 2 rfl ?_
        refine aw_goto (tgt := 45) d_X12_byteOf_29 rfl ?_
        refine aw_istore [(0, .int x0), (1, .int x1), (2, .int x2), (3, .int x3), (4, .int x4), (5, .int x5), (6, .int x2)] d_X12_byteOf_45 (Nat.le_of_ble_eq_true rfl) rfl rfl ?_
        refine aw_iload d_X12_byteOf_47 6 rfl ?_
        refine aw_bipush (v := 24) d_X12_byteOf_49 ib_24 ?_
        refine aw_bipush (v := 8) d_X12_byteOf_51 ib_8 ?_
        refine aw_iload d_X12_byteOf_53 5 rfl ?_
        refine aw_iconst (v := 4) d_X12_byteOf_55 ic_4 ?_
        refine aw_irem d_X12_byteOf_56 (by decide) ?_
        refine aw_imul d_X12_byteOf_57 ?_
        refine aw_isub d_X12_byteOf_58 ?_
        refine aw_ishr d_X12_byteOf_59 ?_
        refine aw_sipush (v := 255) d_X12_byteOf_60 is_255 ?_
        refine aw_iand d_X12_byteOf_63 ?_
        exact aw_iret rfl d_X12_byteOf_64 ⟨Nat.le_refl _, Nat.le_refl _⟩ ⟨_, rfl, k⟩
    · have k := k.2 c2
      refine aw_iload_n (i := 1) rfl d_X12_byteOf_17 1 rfl ?_
      refine aw_goto (tgt := 45) d_X12_byteOf_18 rfl ?_
      refine aw_istore [(0, .int x0), (1, .int x1), (2, .int x2), (3, .int x3), (4, .int x4), (5, .int x5), (6, .int x1)] d_X12_byteOf_45 (Nat.le_of_ble_eq_true rfl) rfl rfl ?_
      refine aw_iload d_X12_byteOf_47 6 rfl ?_
      refine aw_bipush (v := 24) d_X12_byteOf_49 ib_24 ?_
      refine aw_bipush (v := 8) d_X12_byteOf_51 ib_8 ?_
      refine aw_iload d_X12_byteOf_53 5 rfl ?_
      refine aw_iconst (v := 4) d_X12_byteOf_55 ic_4 ?_
      refine aw_irem d_X12_byteOf_56 (by decide) ?_
      refine aw_imul d_X12_byteOf_57 ?_
      refine aw_isub d_X12_byteOf_58 ?_
      refine aw_ishr d_X12_byteOf_59 ?_
      refine aw_sipush (v := 255) d_X12_byteOf_60 is_255 ?_
      refine aw_iand d_X12_byteOf_63 ?_
      exact aw_iret rfl d_X12_byteOf_64 ⟨Nat.le_refl _, Nat.le_refl _⟩ ⟨_, rfl, k⟩
  · have k := k.2 c1
    refine aw_iload_n (i := 0) rfl d_X12_byteOf_6 0 rfl ?_
    refine aw_goto (tgt := 45) d_X12_byteOf_7 rfl ?_
    refine aw_istore [(0, .int x0), (1, .int x1), (2, .int x2), (3, .int x3), (4, .int x4), (5, .int x5), (6, .int x0)] d_X12_byteOf_45 (Nat.le_of_ble_eq_true rfl) rfl rfl ?_
    refine aw_iload d_X12_byteOf_47 6 rfl ?_
    refine aw_bipush (v := 24) d_X12_byteOf_49 ib_24 ?_
    refine aw_bipush (v := 8) d_X12_byteOf_51 ib_8 ?_
    refine aw_iload d_X12_byteOf_53 5 rfl ?_
    refine aw_iconst (v := 4) d_X12_byteOf_55 ic_4 ?_
    refine aw_irem d_X12_byteOf_56 (by decide) ?_
    refine aw_imul d_X12_byteOf_57 ?_
    refine aw_isub d_X12_byteOf_58 ?_
    refine aw_ishr d_X12_byteOf_59 ?_
    refine aw_sipush (v := 255) d_X12_byteOf_60 is_255 ?_
    refine aw_iand d_X12_byteOf_63 ?_
    exact aw_iret rfl d_X12_byteOf_64 ⟨Nat.le_refl _, Nat.le_refl _⟩ ⟨_, rfl, k⟩
theorem t_X12_codeAll (d : Nat) (h : Hp_)  (K : Int32 → Hp_ → Prop) (k : AW (m_X12_codeAll (d + 0) 0 0) 0 0 4 [(0, .ref 1), (1, .int 0), (2, .int 0)] [] h (kI K)) : Ci (m_X12_codeAll (d + 0) 0 0) [.ref 1] h K := by
  refine Ct.of (fun _ _ _ => trivial) rfl (Nat.le_of_ble_eq_true rfl) ?_
  show AW (m_X12_codeAll (d + 0) 0 0) 0 0 0 [(0, .ref 1)] [] h (kI K)
  refine aw_iconst (v := 0) d_X12_codeAll_0 ic_0 ?_
  refine aw_istore_n (i := 1) rfl [(0, .ref 1), (1, .int 0)] d_X12_codeAll_1 (Nat.le_of_ble_eq_true rfl) rfl rfl ?_
  refine aw_iconst (v := 0) d_X12_codeAll_2 ic_0 ?_
  refine aw_istore_n (i := 2) rfl [(0, .ref 1), (1, .int 0), (2, .int 0)] d_X12_codeAll_3 (Nat.le_of_ble_eq_true rfl) rfl rfl ?_
  exact k
theorem t_X12_codeAll_4 (d : Nat) (h : Hp_) (w : Wf h) (x1 : Int32) (x2 : Int32) (K : Int32 → Hp_ → Prop) (k : ((h_i h 1 119) ≤ x2 → K x1 h) ∧ (¬ (h_i h 1 119) ≤ x2 → vp_in x2 4 ∧ (AW (m_X12_codeAll (d + 0) 0 0) 0 0 4 [(0, .ref 1), (1, .int (x1 ||| ((h_i h 290 x2.toNatClampNeg) <<< ((2 * x2) &&& 31)))), (2, .int (x2 + 1))] [] h (kI K)))) : AW (m_X12_codeAll (d + 0) 0 0) 0 0 4 [(0, .ref 1), (1, .int x1), (2, .int x2)] [] h (kI K) := by
  refine aw_iload_n (i := 2) rfl d_X12_codeAll_4 2 rfl ?_
  refine aw_aload_n (i := 0) rfl d_X12_codeAll_5 0 rfl ?_
  refine aw_geti (k0 := 119) kc_12 (ws_1 w) (Nat.le_of_ble_eq_true rfl) tw_1861 d_X12_codeAll_6 rfl ?_
  refine aw_icmp_ge (tgt := 31) d_X12_codeAll_9 rfl (fun c1 => ?_) (fun c1 => ?_)
  · have k := k.1 c1
    refine aw_iload_n (i := 1) rfl d_X12_codeAll_31 1 rfl ?_
    exact aw_iret rfl d_X12_codeAll_32 ⟨Nat.le_refl _, Nat.le_refl _⟩ ⟨_, rfl, k⟩
  · have k := k.2 c1
    refine aw_iload_n (i := 1) rfl d_X12_codeAll_12 1 rfl ?_
    refine aw_aload_n (i := 0) rfl d_X12_codeAll_13 0 rfl ?_
    refine aw_getr (k0 := 118) kc_12 (ws_1 w) (Nat.le_of_ble_eq_true rfl) tw_1860 d_X12_codeAll_14 rfl (wr_1_118 w) ?_
    refine aw_iload_n (i := 2) rfl d_X12_codeAll_17 2 rfl ?_
    obtain ⟨b2, k⟩ := k
    refine aw_iald (ws_290 w) b2 d_X12_codeAll_18 ?_
    refine aw_iconst (v := 2) d_X12_codeAll_19 ic_2 ?_
    refine aw_iload_n (i := 2) rfl d_X12_codeAll_20 2 rfl ?_
    refine aw_imul d_X12_codeAll_21 ?_
    refine aw_ishl d_X12_codeAll_22 ?_
    refine aw_ior d_X12_codeAll_23 ?_
    refine aw_istore_n (i := 1) rfl [(0, .ref 1), (1, .int (x1 ||| ((h_i h 290 x2.toNatClampNeg) <<< ((2 * x2) &&& 31)))), (2, .int x2)] d_X12_codeAll_24 (Nat.le_of_ble_eq_true rfl) rfl rfl ?_
    refine aw_iinc (v := (x2 + 1)) [(0, .ref 1), (1, .int (x1 ||| ((h_i h 290 x2.toNatClampNeg) <<< ((2 * x2) &&& 31)))), (2, .int (x2 + 1))] d_X12_codeAll_25 2 rfl rfl (Nat.le_of_ble_eq_true rfl) rfl rfl ?_
    refine aw_goto (tgt := 4) d_X12_codeAll_28 rfl ?_
    exact k
theorem t_X12_feed (d : Nat) (h : Hp_) (x1 : Int32) (x2 : Int32) (x3 : Int32) (x4 : Int32) (x5 : Int32) (K : Int32 → Hp_ → Prop) (k : AW (m_X12_feed (d + 1) 0 0) 0 0 6 [(0, .ref 1), (1, .int x1), (2, .int x2), (3, .int x3), (4, .int x4), (5, .int x5), (6, .int 0), (7, .int 0)] [] h (kI K)) : Ci (m_X12_feed (d + 1) 0 0) [.ref 1, .int x1, .int x2, .int x3, .int x4, .int x5] h K := by
  refine Ct.of (fun _ _ _ => trivial) rfl (Nat.le_of_ble_eq_true rfl) ?_
  show AW (m_X12_feed (d + 1) 0 0) 0 0 0 [(0, .ref 1), (1, .int x1), (2, .int x2), (3, .int x3), (4, .int x4), (5, .int x5)] [] h (kI K)
  refine aw_iconst (v := 0) d_X12_feed_0 ic_0 ?_
  refine aw_istore [(0, .ref 1), (1, .int x1), (2, .int x2), (3, .int x3), (4, .int x4), (5, .int x5), (6, .int 0)] d_X12_feed_1 (Nat.le_of_ble_eq_true rfl) rfl rfl ?_
  refine aw_iconst (v := 0) d_X12_feed_3 ic_0 ?_
  refine aw_istore [(0, .ref 1), (1, .int x1), (2, .int x2), (3, .int x3), (4, .int x4), (5, .int x5), (6, .int 0), (7, .int 0)] d_X12_feed_4 (Nat.le_of_ble_eq_true rfl) rfl rfl ?_
  exact k
theorem t_X12_feed_6 (d : Nat) (h : Hp_) (w : Wf h) (x1 : Int32) (x2 : Int32) (x3 : Int32) (x4 : Int32) (x5 : Int32) (x6 : Int32) (x7 : Int32) (K : Int32 → Hp_ → Prop) (k : (20 ≤ x7 → (((h_i h 1 32) + x6) ≤ 160 → AW (m_X12_feed (d + 1) 0 0) 0 0 62 [(0, .ref 1), (1, .int x1), (2, .int x2), (3, .int x3), (4, .int x4), (5, .int x5), (7, .int 0)] [] h (kI K)) ∧ (¬ ((h_i h 1 32) + x6) ≤ 160 → K (-1) h)) ∧ (¬ 20 ≤ x7 → Ci (m_X12_byteOf (d + 0) 0 0) [.int x1, .int x2, .int x3, .int x4, .int x5, .int x7] h (fun r5 h3 => Wf h3 ∧ ((r5 = 0 → AW (m_X12_feed (d + 1) 0 0) 0 0 6 [(0, .ref 1), (1, .int x1), (2, .int x2), (3, .int x3), (4, .int x4), (5, .int x5), (6, .int (x6 + 0)), (7, .int (x7 + 1))] [] h3 (kI K)) ∧ (¬ r5 = 0 → AW (m_X12_feed (d + 1) 0 0) 0 0 6 [(0, .ref 1), (1, .int x1), (2, .int x2), (3, .int x3), (4, .int x4), (5, .int x5), (6, .int (x6 + 1)), (7, .int (x7 + 1))] [] h3 (kI K)))))) : AW (m_X12_feed (d + 1) 0 0) 0 0 6 [(0, .ref 1), (1, .int x1), (2, .int x2), (3, .int x3), (4, .int x4), (5, .int x5), (6, .int x6), (7, .int x7)] [] h (kI K) := by
  refine aw_iload d_X12_feed_6 7 rfl ?_
  refine aw_bipush (v := 20) d_X12_feed_8 ib_20 ?_
  refine aw_icmp_ge (tgt := 44) d_X12_feed_10 rfl (fun c1 => ?_) (fun c1 => ?_)
  · have k := k.1 c1
    refine aw_aload_n (i := 0) rfl d_X12_feed_44 0 rfl ?_
    refine aw_geti (k0 := 32) kc_12 (ws_1 w) (Nat.le_of_ble_eq_true rfl) tw_1774 d_X12_feed_45 rfl ?_
    refine aw_iload d_X12_feed_48 6 rfl ?_
    refine aw_iadd d_X12_feed_50 ?_
    refine aw_sipush (v := 160) d_X12_feed_51 is_160 ?_
    refine aw_icmp_le (tgt := 59) d_X12_feed_54 rfl (fun c2 => ?_) (fun c2 => ?_)
    · have k := k.1 c2
      refine aw_iconst (v := 0) d_X12_feed_59 ic_0 ?_
      refine aw_istore [(0, .ref 1), (1, .int x1), (2, .int x2), (3, .int x3), (4, .int x4), (5, .int x5), (6, .int x6), (7, .int 0)] d_X12_feed_60 (Nat.le_of_ble_eq_true rfl) rfl rfl ?_
      exact aw_lvp [0, 1, 2, 3, 4, 5, 7] [(0, .ref 1), (1, .int x1), (2, .int x2), (3, .int x3), (4, .int x4), (5, .int x5), (7, .int 0)] rfl k
    · have k := k.2 c2
      refine aw_iconst (v := (-1)) d_X12_feed_57 ic_m1 ?_
      exact aw_iret rfl d_X12_feed_58 ⟨Nat.le_refl _, Nat.le_refl _⟩ ⟨_, rfl, k⟩
  · have k := k.2 c1
    refine aw_iload d_X12_feed_13 6 rfl ?_
    refine aw_iload_n (i := 1) rfl d_X12_feed_15 1 rfl ?_
    refine aw_iload_n (i := 2) rfl d_X12_feed_16 2 rfl ?_
    refine aw_iload_n (i := 3) rfl d_X12_feed_17 3 rfl ?_
    refine aw_iload d_X12_feed_18 4 rfl ?_
    refine aw_iload d_X12_feed_20 5 rfl ?_
    refine aw_iload d_X12_feed_22 7 rfl ?_
    refine aw_Si [.int x1, .int x2, .int x3, .int x4, .int x5, .int x7] [.int x6] d_X12_feed_24 (cS_X12_byteOf (d + 0) 0 0) tw_2187 rfl (rr0 (Nat.le_of_ble_eq_true rfl) (Nat.le_of_ble_eq_true rfl)) (Nat.le_of_ble_eq_true rfl) xs0 k (fun r5 h3 kk => ?_)
    obtain ⟨w4, k⟩ := kk
    refine aw_if_eq (tgt := 34) d_X12_feed_27 rfl (fun c6 => ?_) (fun c6 => ?_)
    · have k := k.1 c6
      refine aw_iconst (v := 0) d_X12_feed_34 ic_0 ?_
      refine aw_iadd d_X12_feed_35 ?_
      refine aw_istore [(0, .ref 1), (1, .int x1), (2, .int x2), (3, .int x3), (4, .int x4), (5, .int x5), (6, .int (x6 + 0)), (7, .int x7)] d_X12_feed_36 (Nat.le_of_ble_eq_true rfl) rfl rfl ?_
      refine aw_iinc (v := (x7 + 1)) [(0, .ref 1), (1, .int x1), (2, .int x2), (3, .int x3), (4, .int x4), (5, .int x5), (6, .int (x6 + 0)), (7, .int (x7 + 1))] d_X12_feed_38 7 rfl rfl (Nat.le_of_ble_eq_true rfl) rfl rfl ?_
      refine aw_goto (tgt := 6) d_X12_feed_41 rfl ?_
      exact k
    · have k := k.2 c6
      refine aw_iconst (v := 1) d_X12_feed_30 ic_1 ?_
      refine aw_goto (tgt := 35) d_X12_feed_31 rfl ?_
      refine aw_iadd d_X12_feed_35 ?_
      refine aw_istore [(0, .ref 1), (1, .int x1), (2, .int x2), (3, .int x3), (4, .int x4), (5, .int x5), (6, .int (x6 + 1)), (7, .int x7)] d_X12_feed_36 (Nat.le_of_ble_eq_true rfl) rfl rfl ?_
      refine aw_iinc (v := (x7 + 1)) [(0, .ref 1), (1, .int x1), (2, .int x2), (3, .int x3), (4, .int x4), (5, .int x5), (6, .int (x6 + 1)), (7, .int (x7 + 1))] d_X12_feed_38 7 rfl rfl (Nat.le_of_ble_eq_true rfl) rfl rfl ?_
      refine aw_goto (tgt := 6) d_X12_feed_41 rfl ?_
      exact k
theorem t_X12_feed_62 (d : Nat) (h : Hp_) (w : Wf h) (x1 : Int32) (x2 : Int32) (x3 : Int32) (x4 : Int32) (x5 : Int32) (x7 : Int32) (K : Int32 → Hp_ → Prop) (k : (20 ≤ x7 → K (h_i h 1 32) h) ∧ (¬ 20 ≤ x7 → Ci (m_X12_byteOf (d + 0) 0 0) [.int x1, .int x2, .int x3, .int x4, .int x5, .int x7] h (fun r10 h8 => Wf h8 ∧ ((r10 = 0 → AW (m_X12_feed (d + 1) 0 0) 0 0 62 [(0, .ref 1), (1, .int x1), (2, .int x2), (3, .int x3), (4, .int x4), (5, .int x5), (7, .int (x7 + 1))] [] h8 (kI K)) ∧ (¬ r10 = 0 → vp_in (h_i h8 1 32) 160 ∧ (AW (m_X12_feed (d + 1) 0 0) 0 0 62 [(0, .ref 1), (1, .int x1), (2, .int x2), (3, .int x3), (4, .int x4), (5, .int x5), (7, .int (x7 + 1))] [] (h_im (h_im h8 225 ((h_i h8 1 32) : Int32).toNatClampNeg r10) 1 32 ((h_i h8 1 32) + 1)) (kI K))))))) : AW (m_X12_feed (d + 1) 0 0) 0 0 62 [(0, .ref 1), (1, .int x1), (2, .int x2), (3, .int x3), (4, .int x4), (5, .int x5), (7, .int x7)] [] h (kI K) := by
  refine aw_iload d_X12_feed_62 6 rfl ?_
  refine aw_bipush (v := 20) d_X12_feed_64 ib_20 ?_
  refine aw_icmp_ge (tgt := 115) d_X12_feed_66 rfl (fun c7 => ?_) (fun c7 => ?_)
  · have k := k.1 c7
    refine aw_aload_n (i := 0) rfl d_X12_feed_115 0 rfl ?_
    refine aw_geti (k0 := 32) kc_12 (ws_1 w) (Nat.le_of_ble_eq_true rfl) tw_1774 d_X12_feed_116 rfl ?_
    exact aw_iret rfl d_X12_feed_119 ⟨Nat.le_refl _, Nat.le_refl _⟩ ⟨_, rfl, k⟩
  · have k := k.2 c7
    refine aw_iload_n (i := 1) rfl d_X12_feed_69 1 rfl ?_
    refine aw_iload_n (i := 2) rfl d_X12_feed_70 2 rfl ?_
    refine aw_iload_n (i := 3) rfl d_X12_feed_71 3 rfl ?_
    refine aw_iload d_X12_feed_72 4 rfl ?_
    refine aw_iload d_X12_feed_74 5 rfl ?_
    refine aw_iload d_X12_feed_76 6 rfl ?_
    refine aw_Si [.int x1, .int x2, .int x3, .int x4, .int x5, .int x7] [] d_X12_feed_78 (cS_X12_byteOf (d + 0) 0 0) tw_2187 rfl (rr0 (Nat.le_of_ble_eq_true rfl) (Nat.le_of_ble_eq_true rfl)) (Nat.le_of_ble_eq_true rfl) xs0 k (fun r10 h8 kk => ?_)
    obtain ⟨w9, k⟩ := kk
    refine aw_istore [(0, .ref 1), (1, .int x1), (2, .int x2), (3, .int x3), (4, .int x4), (5, .int x5), (7, .int x7), (8, .int r10)] d_X12_feed_81 (Nat.le_of_ble_eq_true rfl) rfl rfl ?_
    refine aw_iload d_X12_feed_83 7 rfl ?_
    refine aw_if_eq (tgt := 109) d_X12_feed_85 rfl (fun c11 => ?_) (fun c11 => ?_)
    · have k := k.1 c11
      refine aw_iinc (v := (x7 + 1)) [(0, .ref 1), (1, .int x1), (2, .int x2), (3, .int x3), (4, .int x4), (5, .int x5), (7, .int (x7 + 1)), (8, .int r10)] d_X12_feed_109 6 rfl rfl (Nat.le_of_ble_eq_true rfl) rfl rfl ?_
      refine aw_goto (tgt := 62) d_X12_feed_112 rfl ?_
      exact aw_lvp [0, 1, 2, 3, 4, 5, 6] [(0, .ref 1), (1, .int x1), (2, .int x2), (3, .int x3), (4, .int x4), (5, .int x5), (7, .int (x7 + 1))] rfl k
    · have k := k.2 c11
      refine aw_aload_n (i := 0) rfl d_X12_feed_88 0 rfl ?_
      refine aw_getr (k0 := 30) kc_12 (ws_1 w9) (Nat.le_of_ble_eq_true rfl) tw_1772 d_X12_feed_89 rfl (wr_1_30 w9) ?_
      refine aw_aload_n (i := 0) rfl d_X12_feed_92 0 rfl ?_
      refine aw_geti (k0 := 32) kc_12 (ws_1 w9) (Nat.le_of_ble_eq_true rfl) tw_1774 d_X12_feed_93 rfl ?_
      refine aw_iload d_X12_feed_96 7 rfl ?_
      obtain ⟨b12, k⟩ := k
      refine aw_iast (ws_225 w9) b12 d_X12_feed_98 ?_
      refine aw_aload_n (i := 0) rfl d_X12_feed_99 0 rfl ?_
      refine aw_dup d_X12_feed_100 rfl ?_
      refine aw_geti (k0 := 32) kc_12 (ws_1 w9) (Nat.le_of_ble_eq_true rfl) tw_1774 d_X12_feed_101 rfl ?_
      refine aw_vi (v2 := (h_i h8 1 32)) (rfl) ?_
      refine aw_iconst (v := 1) d_X12_feed_104 ic_1 ?_
      refine aw_iadd d_X12_feed_105 ?_
      refine aw_puti (k0 := 32) kc_12 (ws_1 w9) (Nat.le_of_ble_eq_true rfl) tw_1774 d_X12_feed_106 rfl rfl nf_i ?_
      refine aw_iinc (v := (x7 + 1)) [(0, .ref 1), (1, .int x1), (2, .int x2), (3, .int x3), (4, .int x4), (5, .int x5), (7, .int (x7 + 1)), (8, .int r10)] d_X12_feed_109 6 rfl rfl (Nat.le_of_ble_eq_true rfl) rfl rfl ?_
      refine aw_goto (tgt := 62) d_X12_feed_112 rfl ?_
      exact aw_lvp [0, 1, 2, 3, 4, 5, 6] [(0, .ref 1), (1, .int x1), (2, .int x2), (3, .int x3), (4, .int x4), (5, .int x5), (7, .int (x7 + 1))] rfl k
theorem t_X12_bestFrom (d : Nat) (h : Hp_) (x1 : Int32) (x2 : Int32) (K : Int32 → Hp_ → Prop) (k : AW (m_X12_bestFrom (d + 1) 0 0) 0 0 2 [(0, .ref 1), (1, .int x1), (2, .int x2), (3, .int 0)] [] h (kI K)) : Ci (m_X12_bestFrom (d + 1) 0 0) [.ref 1, .int x1, .int x2] h K := by
  refine Ct.of (fun _ _ _ => trivial) rfl (Nat.le_of_ble_eq_true rfl) ?_
  show AW (m_X12_bestFrom (d + 1) 0 0) 0 0 0 [(0, .ref 1), (1, .int x1), (2, .int x2)] [] h (kI K)
  refine aw_iconst (v := 0) d_X12_bestFrom_0 ic_0 ?_
  refine aw_istore_n (i := 3) rfl [(0, .ref 1), (1, .int x1), (2, .int x2), (3, .int 0)] d_X12_bestFrom_1 (Nat.le_of_ble_eq_true rfl) rfl rfl ?_
  exact k
theorem t_X12_bestFrom_2 (d : Nat) (h : Hp_) (w : Wf h) (x1 : Int32) (x2 : Int32) (x3 : Int32) (K : Int32 → Hp_ → Prop) (k : (256 ≤ x3 → AW (m_X12_bestFrom (d + 1) 0 0) 0 0 38 [(0, .ref 1), (1, .int x1), (2, .int x2), (3, .int ((h_i h 1 101) - 1))] [] h (kI K)) ∧ (¬ 256 ≤ x3 → vp_in ((256 * (h_i h 1 101)) + x3) 2304 ∧ (AW (m_X12_bestFrom (d + 1) 0 0) 0 0 2 [(0, .ref 1), (1, .int x1), (2, .int x2), (3, .int (x3 + 1))] [] (h_im h 280 (((256 * (h_i h 1 101)) + x3) : Int32).toNatClampNeg 0) (kI K)))) : AW (m_X12_bestFrom (d + 1) 0 0) 0 0 2 [(0, .ref 1), (1, .int x1), (2, .int x2), (3, .int x3)] [] h (kI K) := by
  refine aw_iload_n (i := 3) rfl d_X12_bestFrom_2 3 rfl ?_
  refine aw_sipush (v := 256) d_X12_bestFrom_3 is_256 ?_
  refine aw_icmp_ge (tgt := 31) d_X12_bestFrom_6 rfl (fun c1 => ?_) (fun c1 => ?_)
  · have k := k.1 c1
    refine aw_aload_n (i := 0) rfl d_X12_bestFrom_31 0 rfl ?_
    refine aw_geti (k0 := 101) kc_12 (ws_1 w) (Nat.le_of_ble_eq_true rfl) tw_1843 d_X12_bestFrom_32 rfl ?_
    refine aw_iconst (v := 1) d_X12_bestFrom_35 ic_1 ?_
    refine aw_isub d_X12_bestFrom_36 ?_
    refine aw_istore_n (i := 3) rfl [(0, .ref 1), (1, .int x1), (2, .int x2), (3, .int ((h_i h 1 101) - 1))] d_X12_bestFrom_37 (Nat.le_of_ble_eq_true rfl) rfl rfl ?_
    exact k
  · have k := k.2 c1
    refine aw_aload_n (i := 0) rfl d_X12_bestFrom_9 0 rfl ?_
    refine aw_getr (k0 := 104) kc_12 (ws_1 w) (Nat.le_of_ble_eq_true rfl) tw_1846 d_X12_bestFrom_10 rfl (wr_1_104 w) ?_
    refine aw_sipush (v := 256) d_X12_bestFrom_13 is_256 ?_
    refine aw_aload_n (i := 0) rfl d_X12_bestFrom_16 0 rfl ?_
    refine aw_geti (k0 := 101) kc_12 (ws_1 w) (Nat.le_of_ble_eq_true rfl) tw_1843 d_X12_bestFrom_17 rfl ?_
    refine aw_imul d_X12_bestFrom_20 ?_
    refine aw_iload_n (i := 3) rfl d_X12_bestFrom_21 3 rfl ?_
    refine aw_iadd d_X12_bestFrom_22 ?_
    refine aw_iconst (v := 0) d_X12_bestFrom_23 ic_0 ?_
    obtain ⟨b2, k⟩ := k
    refine aw_iast (ws_280 w) b2 d_X12_bestFrom_24 ?_
    refine aw_iinc (v := (x3 + 1)) [(0, .ref 1), (1, .int x1), (2, .int x2), (3, .int (x3 + 1))] d_X12_bestFrom_25 3 rfl rfl (Nat.le_of_ble_eq_true rfl) rfl rfl ?_
    refine aw_goto (tgt := 2) d_X12_bestFrom_28 rfl ?_
    exact k
theorem t_X12_bestFrom_38 (d : Nat) (h : Hp_) (w : Wf h) (x1 : Int32) (x2 : Int32) (x3 : Int32) (K : Int32 → Hp_ → Prop) (k : (x3 < 0 → vp_in 0 2304 ∧ (K (h_i h 280 (0 : Int32).toNatClampNeg) h)) ∧ (¬ x3 < 0 → AW (m_X12_bestFrom (d + 1) 0 0) 0 0 45 [(0, .ref 1), (1, .int x1), (2, .int x2), (3, .int x3), (4, .int 0)] [] h (kI K))) : AW (m_X12_bestFrom (d + 1) 0 0) 0 0 38 [(0, .ref 1), (1, .int x1), (2, .int x2), (3, .int x3)] [] h (kI K) := by
  refine aw_iload_n (i := 3) rfl d_X12_bestFrom_38 3 rfl ?_
  refine aw_if_lt (tgt := 201) d_X12_bestFrom_39 rfl (fun c3 => ?_) (fun c3 => ?_)
  · have k := k.1 c3
    refine aw_aload_n (i := 0) rfl d_X12_bestFrom_201 0 rfl ?_
    refine aw_getr (k0 := 104) kc_12 (ws_1 w) (Nat.le_of_ble_eq_true rfl) tw_1846 d_X12_bestFrom_202 rfl (wr_1_104 w) ?_
    refine aw_iconst (v := 0) d_X12_bestFrom_205 ic_0 ?_
    obtain ⟨b4, k⟩ := k
    refine aw_iald (ws_280 w) b4 d_X12_bestFrom_206 ?_
    exact aw_iret rfl d_X12_bestFrom_207 ⟨Nat.le_refl _, Nat.le_refl _⟩ ⟨_, rfl, k⟩
  · have k := k.2 c3
    refine aw_iconst (v := 0) d_X12_bestFrom_42 ic_0 ?_
    refine aw_istore [(0, .ref 1), (1, .int x1), (2, .int x2), (3, .int x3), (4, .int 0)] d_X12_bestFrom_43 (Nat.le_of_ble_eq_true rfl) rfl rfl ?_
    exact k
theorem t_X12_bestFrom_45 (d : Nat) (h : Hp_) (w : Wf h) (x1 : Int32) (x2 : Int32) (x3 : Int32) (x4 : Int32) (K : Int32 → Hp_ → Prop) (k : (256 ≤ x4 → AW (m_X12_bestFrom (d + 1) 0 0) 0 0 38 [(0, .ref 1), (1, .int x1), (2, .int x2), (3, .int (x3 + (-1)))] [] h (kI K)) ∧ (¬ 256 ≤ x4 → (¬ x3 = x1 → vp_in ((256 * (x3 + 1)) + x4) 2304 ∧ (AW (m_X12_bestFrom (d + 1) 0 0) 0 0 89 [(0, .ref 1), (1, .int x1), (2, .int x2), (3, .int x3), (4, .int x4), (5, .int (h_i h 280 (((256 * (x3 + 1)) + x4) : Int32).toNatClampNeg)), (6, .int 0)] [] h (kI K))) ∧ (x3 = x1 → (¬ x2 = (-1) → AW (m_X12_bestFrom (d + 1) 0 0) 0 0 89 [(0, .ref 1), (1, .int x1), (2, .int x2), (3, .int x3), (4, .int x4), (5, .int (-1000)), (6, .int 0)] [] h (kI K)) ∧ (x2 = (-1) → vp_in ((256 * (x3 + 1)) + x4) 2304 ∧ (AW (m_X12_bestFrom (d + 1) 0 0) 0 0 89 [(0, .ref 1), (1, .int x1), (2, .int x2), (3, .int x3), (4, .int x4), (5, .int (h_i h 280 (((256 * (x3 + 1)) + x4) : Int32).toNatClampNeg)), (6, .int 0)] [] h (kI K)))))) : AW (m_X12_bestFrom (d + 1) 0 0) 0 0 45 [(0, .ref 1), (1, .int x1), (2, .int x2), (3, .int x3), (4, .int x4)] [] h (kI K) := by
  refine aw_iload d_X12_bestFrom_45 4 rfl ?_
  refine aw_sipush (v := 256) d_X12_bestFrom_47 is_256 ?_
  refine aw_icmp_ge (tgt := 195) d_X12_bestFrom_50 rfl (fun c5 => ?_) (fun c5 => ?_)
  · have k := k.1 c5
    refine aw_iinc (v := (x3 + (-1))) [(0, .ref 1), (1, .int x1), (2, .int x2), (3, .int (x3 + (-1))), (4, .int x4)] d_X12_bestFrom_195 3 rfl rfl (Nat.le_of_ble_eq_true rfl) rfl rfl ?_
    refine aw_goto (tgt := 38) d_X12_bestFrom_198 rfl ?_
    exact aw_lvp [0, 1, 2, 3] [(0, .ref 1), (1, .int x1), (2, .int x2), (3, .int (x3 + (-1)))] rfl k
  · have k := k.2 c5
    refine aw_iload_n (i := 3) rfl d_X12_bestFrom_53 3 rfl ?_
    refine aw_iload_n (i := 1) rfl d_X12_bestFrom_54 1 rfl ?_
    refine aw_icmp_ne (tgt := 63) d_X12_bestFrom_55 rfl (fun c6 => ?_) (fun c6 => ?_)
    · have k := k.1 c6
      refine aw_aload_n (i := 0) rfl d_X12_bestFrom_63 0 rfl ?_
      refine aw_getr (k0 := 104) kc_12 (ws_1 w) (Nat.le_of_ble_eq_true rfl) tw_1846 d_X12_bestFrom_64 rfl (wr_1_104 w) ?_
      refine aw_sipush (v := 256) d_X12_bestFrom_67 is_256 ?_
      refine aw_iload_n (i := 3) rfl d_X12_bestFrom_70 3 rfl ?_
      refine aw_iconst (v := 1) d_X12_bestFrom_71 ic_1 ?_
      refine aw_iadd d_X12_bestFrom_72 ?_
      refine aw_imul d_X12_bestFrom_73 ?_
      refine aw_iload d_X12_bestFrom_74 4 rfl ?_
      refine aw_iadd d_X12_bestFrom_76 ?_
      obtain ⟨b7, k⟩ := k
      refine aw_iald (ws_280 w) b7 d_X12_bestFrom_77 ?_
      refine aw_goto (tgt := 84) d_X12_bestFrom_78 rfl ?_
      refine aw_istore [(0, .ref 1), (1, .int x1), (2, .int x2), (3, .int x3), (4, .int x4), (5, .int (h_i h 280 (((256 * (x3 + 1)) + x4) : Int32).toNatClampNeg))] d_X12_bestFrom_84 (Nat.le_of_ble_eq_true rfl) rfl rfl ?_
      refine aw_iconst (v := 0) d_X12_bestFrom_86 ic_0 ?_
      refine aw_istore [(0, .ref 1), (1, .int x1), (2, .int x2), (3, .int x3), (4, .int x4), (5, .int (h_i h 280 (((256 * (x3 + 1)) + x4) : Int32).toNatClampNeg)), (6, .int 0)] d_X12_bestFrom_87 (Nat.le_of_ble_eq_true rfl) rfl rfl ?_
      exact k
    · have k := k.2 c6
      refine aw_iload_n (i := 2) rfl d_X12_bestFrom_58 2 rfl ?_
      refine aw_iconst (v := (-1)) d_X12_bestFrom_59 ic_m1 ?_
      refine aw_icmp_ne (tgt := 81) d_X12_bestFrom_60 rfl (fun c8 => ?_) (fun c8 => ?_)
      · have k := k.1 c8
        refine aw_sipush (v := (-1000)) d_X12_bestFrom_81 is_m1000 ?_
        refine aw_istore [(0, .ref 1), (1, .int x1), (2, .int x2), (3, .int x3), (4, .int x4), (5, .int (-1000))] d_X12_bestFrom_84 (Nat.le_of_ble_eq_true rfl) rfl rfl ?_
        refine aw_iconst (v := 0) d_X12_bestFrom_86 ic_0 ?_
        refine aw_istore [(0, .ref 1), (1, .int x1), (2, .int x2), (3, .int x3), (4, .int x4), (5, .int (-1000)), (6, .int 0)] d_X12_bestFrom_87 (Nat.le_of_ble_eq_true rfl) rfl rfl ?_
        exact k
      · have k := k.2 c8
        refine aw_aload_n (i := 0) rfl d_X12_bestFrom_63 0 rfl ?_
        refine aw_getr (k0 := 104) kc_12 (ws_1 w) (Nat.le_of_ble_eq_true rfl) tw_1846 d_X12_bestFrom_64 rfl (wr_1_104 w) ?_
        refine aw_sipush (v := 256) d_X12_bestFrom_67 is_256 ?_
        refine aw_iload_n (i := 3) rfl d_X12_bestFrom_70 3 rfl ?_
        refine aw_iconst (v := 1) d_X12_bestFrom_71 ic_1 ?_
        refine aw_iadd d_X12_bestFrom_72 ?_
        refine aw_imul d_X12_bestFrom_73 ?_
        refine aw_iload d_X12_bestFrom_74 4 rfl ?_
        refine aw_iadd d_X12_bestFrom_76 ?_
        obtain ⟨b9, k⟩ := k
        refine aw_iald (ws_280 w) b9 d_X12_bestFrom_77 ?_
        refine aw_goto (tgt := 84) d_X12_bestFrom_78 rfl ?_
        refine aw_istore [(0, .ref 1), (1, .int x1), (2, .int x2), (3, .int x3), (4, .int x4), (5, .int (h_i h 280 (((256 * (x3 + 1)) + x4) : Int32).toNatClampNeg))] d_X12_bestFrom_84 (Nat.le_of_ble_eq_true rfl) rfl rfl ?_
        refine aw_iconst (v := 0) d_X12_bestFrom_86 ic_0 ?_
        refine aw_istore [(0, .ref 1), (1, .int x1), (2, .int x2), (3, .int x3), (4, .int x4), (5, .int (h_i h 280 (((256 * (x3 + 1)) + x4) : Int32).toNatClampNeg)), (6, .int 0)] d_X12_bestFrom_87 (Nat.le_of_ble_eq_true rfl) rfl rfl ?_
        exact k
theorem t_X12_bestFrom_89 (d : Nat) (h : Hp_) (w : Wf h) (x1 : Int32) (x2 : Int32) (x3 : Int32) (x4 : Int32) (x5 : Int32) (x6 : Int32) (K : Int32 → Hp_ → Prop) (k : ((h_i h 1 102) ≤ x6 → vp_in ((256 * x3) + x4) 2304 ∧ (AW (m_X12_bestFrom (d + 1) 0 0) 0 0 45 [(0, .ref 1), (1, .int x1), (2, .int x2), (3, .int x3), (4, .int (x4 + 1))] [] (h_im h 280 (((256 * x3) + x4) : Int32).toNatClampNeg x5) (kI K))) ∧ (¬ (h_i h 1 102) ≤ x6 → (¬ ((x4 >>> (x6 &&& 31)) &&& 1) = 0 → AW (m_X12_bestFrom (d + 1) 0 0) 0 0 89 [(0, .ref 1), (1, .int x1), (2, .int x2), (3, .int x3), (4, .int x4), (5, .int x5), (6, .int (x6 + 1))] [] h (kI K)) ∧ (((x4 >>> (x6 &&& 31)) &&& 1) = 0 → Ci (m_X12_like (d + 0) 0 0) [.ref 1, .int x3, .int x6] h (fun r15 h13 => Wf h13 ∧ ((r15 < (h_i h13 1 103) → AW (m_X12_bestFrom (d + 1) 0 0) 0 0 89 [(0, .ref 1), (1, .int x1), (2, .int x2), (3, .int x3), (4, .int x4), (5, .int x5), (6, .int (x6 + 1))] [] h13 (kI K)) ∧ (¬ r15 < (h_i h13 1 103) → (¬ x3 = x1 → Ci (m_X12_like (d + 0) 0 0) [.ref 1, .int x3, .int x6] h13 (fun r20 h18 => Wf h18 ∧ (vp_in ((256 * (x3 + 1)) + (x4 ||| ((1 : Int32) <<< (x6 &&& 31)))) 2304 ∧ (Ci (m_J9_max_7cf53 (d + 0) 0 0) [.int x5, .int (r20 + (h_i h18 280 (((256 * (x3 + 1)) + (x4 ||| ((1 : Int32) <<< (x6 &&& 31)))) : Int32).toNatClampNeg))] h18 (fun r24 h22 => Wf h22 ∧ (AW (m_X12_bestFrom (d + 1) 0 0) 0 0 89 [(0, .ref 1), (1, .int x1), (2, .int x2), (3, .int x3), (4, .int x4), (5, .int r24), (6, .int (x6 + 1))] [] h22 (kI K))))))) ∧ (x3 = x1 → (¬ x2 = x6 → AW (m_X12_bestFrom (d + 1) 0 0) 0 0 89 [(0, .ref 1), (1, .int x1), (2, .int x2), (3, .int x3), (4, .int x4), (5, .int x5), (6, .int (x6 + 1))] [] h13 (kI K)) ∧ (x2 = x6 → Ci (m_X12_like (d + 0) 0 0) [.ref 1, .int x3, .int x6] h13 (fun r28 h26 => Wf h26 ∧ (vp_in ((256 * (x3 + 1)) + (x4 ||| ((1 : Int32) <<< (x6 &&& 31)))) 2304 ∧ (Ci (m_J9_max_7cf53 (d + 0) 0 0) [.int x5, .int (r28 + (h_i h26 280 (((256 * (x3 + 1)) + (x4 ||| ((1 : Int32) <<< (x6 &&& 31)))) : Int32).toNatClampNeg))] h26 (fun r32 h30 => Wf h30 ∧ (AW (m_X12_bestFrom (d + 1) 0 0) 0 0 89 [(0, .ref 1), (1, .int x1), (2, .int x2), (3, .int x3), (4, .int x4), (5, .int r32), (6, .int (x6 + 1))] [] h30 (kI K)))))))))))))) : AW (m_X12_bestFrom (d + 1) 0 0) 0 0 89 [(0, .ref 1), (1, .int x1), (2, .int x2), (3, .int x3), (4, .int x4), (5, .int x5), (6, .int x6)] [] h (kI K) := by
  refine aw_iload d_X12_bestFrom_89 6 rfl ?_
  refine aw_aload_n (i := 0) rfl d_X12_bestFrom_91 0 rfl ?_
  refine aw_geti (k0 := 102) kc_12 (ws_1 w) (Nat.le_of_ble_eq_true rfl) tw_1844 d_X12_bestFrom_92 rfl ?_
  refine aw_icmp_ge (tgt := 174) d_X12_bestFrom_95 rfl (fun c10 => ?_) (fun c10 => ?_)
  · have k := k.1 c10
    refine aw_aload_n (i := 0) rfl d_X12_bestFrom_174 0 rfl ?_
    refine aw_getr (k0 := 104) kc_12 (ws_1 w) (Nat.le_of_ble_eq_true rfl) tw_1846 d_X12_bestFrom_175 rfl (wr_1_104 w) ?_
    refine aw_sipush (v := 256) d_X12_bestFrom_178 is_256 ?_
    refine aw_iload_n (i := 3) rfl d_X12_bestFrom_181 3 rfl ?_
    refine aw_imul d_X12_bestFrom_182 ?_
    refine aw_iload d_X12_bestFrom_183 4 rfl ?_
    refine aw_iadd d_X12_bestFrom_185 ?_
    refine aw_iload d_X12_bestFrom_186 5 rfl ?_
    obtain ⟨b11, k⟩ := k
    refine aw_iast (ws_280 w) b11 d_X12_bestFrom_188 ?_
    refine aw_iinc (v := (x4 + 1)) [(0, .ref 1), (1, .int x1), (2, .int x2), (3, .int x3), (4, .int (x4 + 1)), (5, .int x5), (6, .int x6)] d_X12_bestFrom_189 4 rfl rfl (Nat.le_of_ble_eq_true rfl) rfl rfl ?_
    refine aw_goto (tgt := 45) d_X12_bestFrom_192 rfl ?_
    exact aw_lvp [0, 1, 2, 3, 4] [(0, .ref 1), (1, .int x1), (2, .int x2), (3, .int x3), (4, .int (x4 + 1))] rfl k
  · have k := k.2 c10
    refine aw_iload d_X12_bestFrom_98 4 rfl ?_
    refine aw_iload d_X12_bestFrom_100 6 rfl ?_
    refine aw_ishr d_X12_bestFrom_102 ?_
    refine aw_iconst (v := 1) d_X12_bestFrom_103 ic_1 ?_
    refine aw_iand d_X12_bestFrom_104 ?_
    refine aw_if_ne (tgt := 168) d_X12_bestFrom_105 rfl (fun c12 => ?_) (fun c12 => ?_)
    · have k := k.1 c12
      refine aw_iinc (v := (x6 + 1)) [(0, .ref 1), (1, .int x1), (2, .int x2), (3, .int x3), (4, .int x4), (5, .int x5), (6, .int (x6 + 1))] d_X12_bestFrom_168 6 rfl rfl (Nat.le_of_ble_eq_true rfl) rfl rfl ?_
      refine aw_goto (tgt := 89) d_X12_bestFrom_171 rfl ?_
      exact k
    · have k := k.2 c12
      refine aw_aload_n (i := 0) rfl d_X12_bestFrom_108 0 rfl ?_
      refine aw_iload_n (i := 3) rfl d_X12_bestFrom_109 3 rfl ?_
      refine aw_iload d_X12_bestFrom_110 6 rfl ?_
      refine aw_Vi 1 [.int x3, .int x6] [] d_X12_bestFrom_112 (cV_X12_like (d + 0) 0 0) kc_12 (ws_1 w) tw_2574 rfl (rr0 (Nat.le_of_ble_eq_true rfl) (Nat.le_of_ble_eq_true rfl)) (Nat.le_of_ble_eq_true rfl) xs0 k (fun r15 h13 kk => ?_)
      obtain ⟨w14, k⟩ := kk
      refine aw_aload_n (i := 0) rfl d_X12_bestFrom_115 0 rfl ?_
      refine aw_geti (k0 := 103) kc_12 (ws_1 w14) (Nat.le_of_ble_eq_true rfl) tw_1845 d_X12_bestFrom_116 rfl ?_
      refine aw_icmp_lt (tgt := 168) d_X12_bestFrom_119 rfl (fun c16 => ?_) (fun c16 => ?_)
      · have k := k.1 c16
        refine aw_iinc (v := (x6 + 1)) [(0, .ref 1), (1, .int x1), (2, .int x2), (3, .int x3), (4, .int x4), (5, .int x5), (6, .int (x6 + 1))] d_X12_bestFrom_168 6 rfl rfl (Nat.le_of_ble_eq_true rfl) rfl rfl ?_
        refine aw_goto (tgt := 89) d_X12_bestFrom_171 rfl ?_
        exact k
      · have k := k.2 c16
        refine aw_iload_n (i := 3) rfl d_X12_bestFrom_122 3 rfl ?_
        refine aw_iload_n (i := 1) rfl d_X12_bestFrom_123 1 rfl ?_
        refine aw_icmp_ne (tgt := 133) d_X12_bestFrom_124 rfl (fun c17 => ?_) (fun c17 => ?_)
        · have k := k.1 c17
          refine aw_iload d_X12_bestFrom_133 5 rfl ?_
          refine aw_aload_n (i := 0) rfl d_X12_bestFrom_135 0 rfl ?_
          refine aw_iload_n (i := 3) rfl d_X12_bestFrom_136 3 rfl ?_
          refine aw_iload d_X12_bestFrom_137 6 rfl ?_
          refine aw_Vi 1 [.int x3, .int x6] [.int x5] d_X12_bestFrom_139 (cV_X12_like (d + 0) 0 0) kc_12 (ws_1 w14) tw_2574 rfl (rr0 (Nat.le_of_ble_eq_true rfl) (Nat.le_of_ble_eq_true rfl)) (Nat.le_of_ble_eq_true rfl) xs0 k (fun r20 h18 kk => ?_)
          obtain ⟨w19, k⟩ := kk
          refine aw_aload_n (i := 0) rfl d_X12_bestFrom_142 0 rfl ?_
          refine aw_getr (k0 := 104) kc_12 (ws_1 w19) (Nat.le_of_ble_eq_true rfl) tw_1846 d_X12_bestFrom_143 rfl (wr_1_104 w19) ?_
          refine aw_sipush (v := 256) d_X12_bestFrom_146 is_256 ?_
          refine aw_iload_n (i := 3) rfl d_X12_bestFrom_149 3 rfl ?_
          refine aw_iconst (v := 1) d_X12_bestFrom_150 ic_1 ?_
          refine aw_iadd d_X12_bestFrom_151 ?_
          refine aw_imul d_X12_bestFrom_152 ?_
          refine aw_iload d_X12_bestFrom_153 4 rfl ?_
          refine aw_iconst (v := 1) d_X12_bestFrom_155 ic_1 ?_
          refine aw_iload d_X12_bestFrom_156 6 rfl ?_
          refine aw_ishl d_X12_bestFrom_158 ?_
          refine aw_ior d_X12_bestFrom_159 ?_
          refine aw_iadd d_X12_bestFrom_160 ?_
          obtain ⟨b21, k⟩ := k
          refine aw_iald (ws_280 w19) b21 d_X12_bestFrom_161 ?_
          refine aw_iadd d_X12_bestFrom_162 ?_
          refine aw_Si [.int x5, .int (r20 + (h_i h18 280 (((256 * (x3 + 1)) + (x4 ||| ((1 : Int32) <<< (x6 &&& 31)))) : Int32).toNatClampNeg))] [] d_X12_bestFrom_163 (cS_J9_max_7cf53 (d + 0) 0 0) tw_2474 rfl (rr0 (Nat.le_of_ble_eq_true rfl) (Nat.le_of_ble_eq_true rfl)) (Nat.le_of_ble_eq_true rfl) xs0 k (fun r24 h22 kk => ?_)
          obtain ⟨w23, k⟩ := kk
          refine aw_istore [(0, .ref 1), (1, .int x1), (2, .int x2), (3, .int x3), (4, .int x4), (5, .int r24), (6, .int x6)] d_X12_bestFrom_166 (Nat.le_of_ble_eq_true rfl) rfl rfl ?_
          refine aw_iinc (v := (x6 + 1)) [(0, .ref 1), (1, .int x1), (2, .int x2), (3, .int x3), (4, .int x4), (5, .int r24), (6, .int (x6 + 1))] d_X12_bestFrom_168 6 rfl rfl (Nat.le_of_ble_eq_true rfl) rfl rfl ?_
          refine aw_goto (tgt := 89) d_X12_bestFrom_171 rfl ?_
          exact k
        · have k := k.2 c17
          refine aw_iload_n (i := 2) rfl d_X12_bestFrom_127 2 rfl ?_
          refine aw_iload d_X12_bestFrom_128 6 rfl ?_
          refine aw_icmp_ne (tgt := 168) d_X12_bestFrom_130 rfl (fun c25 => ?_) (fun c25 => ?_)
          · have k := k.1 c25
            refine aw_iinc (v := (x6 + 1)) [(0, .ref 1), (1, .int x1), (2, .int x2), (3, .int x3), (4, .int x4), (5, .int x5), (6, .int (x6 + 1))] d_X12_bestFrom_168 6 rfl rfl (Nat.le_of_ble_eq_true rfl) rfl rfl ?_
            refine aw_goto (tgt := 89) d_X12_bestFrom_171 rfl ?_
            exact k
          · have k := k.2 c25
            refine aw_iload d_X12_bestFrom_133 5 rfl ?_
            refine aw_aload_n (i := 0) rfl d_X12_bestFrom_135 0 rfl ?_
            refine aw_iload_n (i := 3) rfl d_X12_bestFrom_136 3 rfl ?_
            refine aw_iload d_X12_bestFrom_137 6 rfl ?_
            refine aw_Vi 1 [.int x3, .int x6] [.int x5] d_X12_bestFrom_139 (cV_X12_like (d + 0) 0 0) kc_12 (ws_1 w14) tw_2574 rfl (rr0 (Nat.le_of_ble_eq_true rfl) (Nat.le_of_ble_eq_true rfl)) (Nat.le_of_ble_eq_true rfl) xs0 k (fun r28 h26 kk => ?_)
            obtain ⟨w27, k⟩ := kk
            refine aw_aload_n (i := 0) rfl d_X12_bestFrom_142 0 rfl ?_
            refine aw_getr (k0 := 104) kc_12 (ws_1 w27) (Nat.le_of_ble_eq_true rfl) tw_1846 d_X12_bestFrom_143 rfl (wr_1_104 w27) ?_
            refine aw_sipush (v := 256) d_X12_bestFrom_146 is_256 ?_
            refine aw_iload_n (i := 3) rfl d_X12_bestFrom_149 3 rfl ?_
            refine aw_iconst (v := 1) d_X12_bestFrom_150 ic_1 ?_
            refine aw_iadd d_X12_bestFrom_151 ?_
            refine aw_imul d_X12_bestFrom_152 ?_
            refine aw_iload d_X12_bestFrom_153 4 rfl ?_
            refine aw_iconst (v := 1) d_X12_bestFrom_155 ic_1 ?_
            refine aw_iload d_X12_bestFrom_156 6 rfl ?_
            refine aw_ishl d_X12_bestFrom_158 ?_
            refine aw_ior d_X12_bestFrom_159 ?_
            refine aw_iadd d_X12_bestFrom_160 ?_
            obtain ⟨b29, k⟩ := k
            refine aw_iald (ws_280 w27) b29 d_X12_bestFrom_161 ?_
            refine aw_iadd d_X12_bestFrom_162 ?_
            refine aw_Si [.int x5, .int (r28 + (h_i h26 280 (((256 * (x3 + 1)) + (x4 ||| ((1 : Int32) <<< (x6 &&& 31)))) : Int32).toNatClampNeg))] [] d_X12_bestFrom_163 (cS_J9_max_7cf53 (d + 0) 0 0) tw_2474 rfl (rr0 (Nat.le_of_ble_eq_true rfl) (Nat.le_of_ble_eq_true rfl)) (Nat.le_of_ble_eq_true rfl) xs0 k (fun r32 h30 kk => ?_)
            obtain ⟨w31, k⟩ := kk
            refine aw_istore [(0, .ref 1), (1, .int x1), (2, .int x2), (3, .int x3), (4, .int x4), (5, .int r32), (6, .int x6)] d_X12_bestFrom_166 (Nat.le_of_ble_eq_true rfl) rfl rfl ?_
            refine aw_iinc (v := (x6 + 1)) [(0, .ref 1), (1, .int x1), (2, .int x2), (3, .int x3), (4, .int x4), (5, .int r32), (6, .int (x6 + 1))] d_X12_bestFrom_168 6 rfl rfl (Nat.le_of_ble_eq_true rfl) rfl rfl ?_
            refine aw_goto (tgt := 89) d_X12_bestFrom_171 rfl ?_
            exact k
theorem t_X12_walk (d : Nat) (h : Hp_) (w : Wf h) (x1 : Int32) (x2 : Int32) (K : Int32 → Hp_ → Prop) (k : (¬ (0 ≤ x1 ∧ x1 ≤ 15) → K (-1) h) ∧ ((0 ≤ x1 ∧ x1 ≤ 15) → (¬ (0 ≤ x2 ∧ x2 ≤ 15) → K (-1) h) ∧ ((0 ≤ x2 ∧ x2 ≤ 15) → Ci (m_X12_walkOf (d + 0) 0 0) [.ref 1, .int x1, .int x2] h (fun r9 h7 => Wf h7 ∧ (K r9 h7))))) : Ci (m_X12_walk (d + 2) 0 0) [.ref 1, .int x1, .int x2] h K := by
  refine Ct.of (fun _ _ _ => trivial) rfl (Nat.le_of_ble_eq_true rfl) ?_
  show AW (m_X12_walk (d + 2) 0 0) 0 0 0 [(0, .ref 1), (1, .int x1), (2, .int x2)] [] h (kI K)
  refine aw_iload_n (i := 1) rfl d_X12_walk_0 1 rfl ?_
  refine aw_Si [.int x1] [] d_X12_walk_1 (cS_X12_isPlace (d + 1) 0 0) tw_2144 rfl (rr0 (Nat.le_of_ble_eq_true rfl) (Nat.le_of_ble_eq_true rfl)) (Nat.le_of_ble_eq_true rfl) xs0 (s_X12_isPlace _ _ x1) (fun _ _ kk => ?_)
  obtain ⟨e1, e2⟩ := kk
  rw [e1, e2]
  refine aw_ifb_eq (tgt := 23) d_X12_walk_4 rfl (fun c3 => ?_) (fun c3 => ?_)
  · have k := k.1 c3
    refine aw_iconst (v := (-1)) d_X12_walk_23 ic_m1 ?_
    exact aw_iret rfl d_X12_walk_24 ⟨Nat.le_refl _, Nat.le_refl _⟩ ⟨_, rfl, k⟩
  · have k := k.2 c3
    refine aw_iload_n (i := 2) rfl d_X12_walk_7 2 rfl ?_
    refine aw_Si [.int x2] [] d_X12_walk_8 (cS_X12_isPlace (d + 1) 0 0) tw_2144 rfl (rr0 (Nat.le_of_ble_eq_true rfl) (Nat.le_of_ble_eq_true rfl)) (Nat.le_of_ble_eq_true rfl) xs0 (s_X12_isPlace _ _ x2) (fun _ _ kk => ?_)
    obtain ⟨e4, e5⟩ := kk
    rw [e4, e5]
    refine aw_ifb_eq (tgt := 23) d_X12_walk_11 rfl (fun c6 => ?_) (fun c6 => ?_)
    · have k := k.1 c6
      refine aw_iconst (v := (-1)) d_X12_walk_23 ic_m1 ?_
      exact aw_iret rfl d_X12_walk_24 ⟨Nat.le_refl _, Nat.le_refl _⟩ ⟨_, rfl, k⟩
    · have k := k.2 c6
      refine aw_aload_n (i := 0) rfl d_X12_walk_14 0 rfl ?_
      refine aw_iload_n (i := 1) rfl d_X12_walk_15 1 rfl ?_
      refine aw_iload_n (i := 2) rfl d_X12_walk_16 2 rfl ?_
      refine aw_Vi 1 [.int x1, .int x2] [] d_X12_walk_17 (cV_X12_walkOf (d + 0) 0 0) kc_12 (ws_1 w) tw_2154 rfl (rr0 (Nat.le_of_ble_eq_true rfl) (Nat.le_of_ble_eq_true rfl)) (Nat.le_of_ble_eq_true rfl) xs0 k (fun r9 h7 kk => ?_)
      obtain ⟨w8, k⟩ := kk
      refine aw_goto (tgt := 24) d_X12_walk_20 rfl ?_
      exact aw_iret rfl d_X12_walk_24 ⟨Nat.le_refl _, Nat.le_refl _⟩ ⟨_, rfl, k⟩
theorem t_X12_joining (d : Nat) (h : Hp_) (w : Wf h)  (K : Int32 → Hp_ → Prop) (k : Ci (m_X12_bestFrom (d + 1) 0 0) [.ref 1, .int (-1), .int (-1)] h (fun r3 h1 => Wf h1 ∧ (K r3 h1))) : Ci (m_X12_joining (d + 2) 0 0) [.ref 1] h K := by
  refine Ct.of (fun _ _ _ => trivial) rfl (Nat.le_of_ble_eq_true rfl) ?_
  show AW (m_X12_joining (d + 2) 0 0) 0 0 0 [(0, .ref 1)] [] h (kI K)
  refine aw_aload_n (i := 0) rfl d_X12_joining_0 0 rfl ?_
  refine aw_iconst (v := (-1)) d_X12_joining_1 ic_m1 ?_
  refine aw_iconst (v := (-1)) d_X12_joining_2 ic_m1 ?_
  refine aw_Vi 1 [.int (-1), .int (-1)] [] d_X12_joining_3 (cV_X12_bestFrom (d + 1) 0 0) kc_12 (ws_1 w) tw_2570 rfl (rr0 (Nat.le_of_ble_eq_true rfl) (Nat.le_of_ble_eq_true rfl)) (Nat.le_of_ble_eq_true rfl) xs0 k (fun r3 h1 kk => ?_)
  obtain ⟨w2, k⟩ := kk
  exact aw_iret rfl d_X12_joining_6 ⟨Nat.le_refl _, Nat.le_refl _⟩ ⟨_, rfl, k⟩
theorem t_X12_findLending (d : Nat) (h : Hp_)  (K : Int32 → Hp_ → Prop) (k : AW (m_X12_findLending (d + 2) 0 0) 0 0 2 [(0, .ref 1), (1, .int 0)] [] h (kI K)) : Ci (m_X12_findLending (d + 2) 0 0) [.ref 1] h K := by
  refine Ct.of (fun _ _ _ => trivial) rfl (Nat.le_of_ble_eq_true rfl) ?_
  show AW (m_X12_findLending (d + 2) 0 0) 0 0 0 [(0, .ref 1)] [] h (kI K)
  refine aw_iconst (v := 0) d_X12_findLending_0 ic_0 ?_
  refine aw_istore_n (i := 1) rfl [(0, .ref 1), (1, .int 0)] d_X12_findLending_1 (Nat.le_of_ble_eq_true rfl) rfl rfl ?_
  exact k
theorem t_X12_findLending_2 (d : Nat) (h : Hp_) (w : Wf h) (x1 : Int32) (K : Int32 → Hp_ → Prop) (k : ((h_i h 1 7) ≤ x1 → AW (m_X12_findLending (d + 2) 0 0) 0 0 50 [(0, .ref 1), (1, .int 0)] [] h (kI K)) ∧ (¬ (h_i h 1 7) ≤ x1 → AW (m_X12_findLending (d + 2) 0 0) 0 0 12 [(0, .ref 1), (1, .int x1), (2, .int 0)] [] h (kI K))) : AW (m_X12_findLending (d + 2) 0 0) 0 0 2 [(0, .ref 1), (1, .int x1)] [] h (kI K) := by
  refine aw_iload_n (i := 1) rfl d_X12_findLending_2 1 rfl ?_
  refine aw_aload_n (i := 0) rfl d_X12_findLending_3 0 rfl ?_
  refine aw_geti (k0 := 7) kc_12 (ws_1 w) (Nat.le_of_ble_eq_true rfl) tw_1749 d_X12_findLending_4 rfl ?_
  refine aw_icmp_ge (tgt := 48) d_X12_findLending_7 rfl (fun c1 => ?_) (fun c1 => ?_)
  · have k := k.1 c1
    refine aw_iconst (v := 0) d_X12_findLending_48 ic_0 ?_
    refine aw_istore_n (i := 1) rfl [(0, .ref 1), (1, .int 0)] d_X12_findLending_49 (Nat.le_of_ble_eq_true rfl) rfl rfl ?_
    exact k
  · have k := k.2 c1
    refine aw_iconst (v := 0) d_X12_findLending_10 ic_0 ?_
    refine aw_istore_n (i := 2) rfl [(0, .ref 1), (1, .int x1), (2, .int 0)] d_X12_findLending_11 (Nat.le_of_ble_eq_true rfl) rfl rfl ?_
    exact k
theorem t_X12_findLending_50 (d : Nat) (h : Hp_) (w : Wf h) (x1 : Int32) (K : Int32 → Hp_ → Prop) (k : (256 ≤ x1 → AW (m_X12_findLending (d + 2) 0 0) 0 0 96 [(0, .ref 1), (1, .int ((h_i h 1 7) - 1))] [] h (kI K)) ∧ (¬ 256 ≤ x1 → (¬ x1 = 0 → vp_in ((256 * (h_i h 1 7)) + x1) 3328 ∧ (AW (m_X12_findLending (d + 2) 0 0) 0 0 50 [(0, .ref 1), (1, .int (x1 + 1))] [] (h_im h 291 (((256 * (h_i h 1 7)) + x1) : Int32).toNatClampNeg 1000000000) (kI K))) ∧ (x1 = 0 → vp_in ((256 * (h_i h 1 7)) + x1) 3328 ∧ (AW (m_X12_findLending (d + 2) 0 0) 0 0 50 [(0, .ref 1), (1, .int (x1 + 1))] [] (h_im h 291 (((256 * (h_i h 1 7)) + x1) : Int32).toNatClampNeg 0) (kI K))))) : AW (m_X12_findLending (d + 2) 0 0) 0 0 50 [(0, .ref 1), (1, .int x1)] [] h (kI K) := by
  refine aw_iload_n (i := 1) rfl d_X12_findLending_50 1 rfl ?_
  refine aw_sipush (v := 256) d_X12_findLending_51 is_256 ?_
  refine aw_icmp_ge (tgt := 89) d_X12_findLending_54 rfl (fun c2 => ?_) (fun c2 => ?_)
  · have k := k.1 c2
    refine aw_aload_n (i := 0) rfl d_X12_findLending_89 0 rfl ?_
    refine aw_geti (k0 := 7) kc_12 (ws_1 w) (Nat.le_of_ble_eq_true rfl) tw_1749 d_X12_findLending_90 rfl ?_
    refine aw_iconst (v := 1) d_X12_findLending_93 ic_1 ?_
    refine aw_isub d_X12_findLending_94 ?_
    refine aw_istore_n (i := 1) rfl [(0, .ref 1), (1, .int ((h_i h 1 7) - 1))] d_X12_findLending_95 (Nat.le_of_ble_eq_true rfl) rfl rfl ?_
    exact k
  · have k := k.2 c2
    refine aw_aload_n (i := 0) rfl d_X12_findLending_57 0 rfl ?_
    refine aw_getr (k0 := 120) kc_12 (ws_1 w) (Nat.le_of_ble_eq_true rfl) tw_1862 d_X12_findLending_58 rfl (wr_1_120 w) ?_
    refine aw_sipush (v := 256) d_X12_findLending_61 is_256 ?_
    refine aw_aload_n (i := 0) rfl d_X12_findLending_64 0 rfl ?_
    refine aw_geti (k0 := 7) kc_12 (ws_1 w) (Nat.le_of_ble_eq_true rfl) tw_1749 d_X12_findLending_65 rfl ?_
    refine aw_imul d_X12_findLending_68 ?_
    refine aw_iload_n (i := 1) rfl d_X12_findLending_69 1 rfl ?_
    refine aw_iadd d_X12_findLending_70 ?_
    refine aw_iload_n (i := 1) rfl d_X12_findLending_71 1 rfl ?_
    refine aw_if_ne (tgt := 79) d_X12_findLending_72 rfl (fun c3 => ?_) (fun c3 => ?_)
    · have k := k.1 c3
      refine aw_ldcw (v := 1000000000) d_X12_findLending_79 tw_2651 ?_
      obtain ⟨b4, k⟩ := k
      refine aw_iast (ws_291 w) b4 d_X12_findLending_82 ?_
      refine aw_iinc (v := (x1 + 1)) [(0, .ref 1), (1, .int (x1 + 1))] d_X12_findLending_83 1 rfl rfl (Nat.le_of_ble_eq_true rfl) rfl rfl ?_
      refine aw_goto (tgt := 50) d_X12_findLending_86 rfl ?_
      exact k
    · have k := k.2 c3
      refine aw_iconst (v := 0) d_X12_findLending_75 ic_0 ?_
      refine aw_goto (tgt := 82) d_X12_findLending_76 rfl ?_
      obtain ⟨b5, k⟩ := k
      refine aw_iast (ws_291 w) b5 d_X12_findLending_82 ?_
      refine aw_iinc (v := (x1 + 1)) [(0, .ref 1), (1, .int (x1 + 1))] d_X12_findLending_83 1 rfl rfl (Nat.le_of_ble_eq_true rfl) rfl rfl ?_
      refine aw_goto (tgt := 50) d_X12_findLending_86 rfl ?_
      exact k
theorem t_X12_findLending_12 (d : Nat) (h : Hp_) (w : Wf h) (x1 : Int32) (x2 : Int32) (K : Int32 → Hp_ → Prop) (k : ((h_i h 1 119) ≤ x2 → AW (m_X12_findLending (d + 2) 0 0) 0 0 2 [(0, .ref 1), (1, .int (x1 + 1))] [] h (kI K)) ∧ (¬ (h_i h 1 119) ≤ x2 → Ci (m_X12_costOf (d + 1) 0 0) [.ref 1, .int x1, .int x2] h (fun r9 h7 => Wf h7 ∧ (vp_in ((4 * x1) + x2) 48 ∧ (AW (m_X12_findLending (d + 2) 0 0) 0 0 12 [(0, .ref 1), (1, .int x1), (2, .int (x2 + 1))] [] (h_im h7 292 (((4 * x1) + x2) : Int32).toNatClampNeg r9) (kI K)))))) : AW (m_X12_findLending (d + 2) 0 0) 0 0 12 [(0, .ref 1), (1, .int x1), (2, .int x2)] [] h (kI K) := by
  refine aw_iload_n (i := 2) rfl d_X12_findLending_12 2 rfl ?_
  refine aw_aload_n (i := 0) rfl d_X12_findLending_13 0 rfl ?_
  refine aw_geti (k0 := 119) kc_12 (ws_1 w) (Nat.le_of_ble_eq_true rfl) tw_1861 d_X12_findLending_14 rfl ?_
  refine aw_icmp_ge (tgt := 42) d_X12_findLending_17 rfl (fun c6 => ?_) (fun c6 => ?_)
  · have k := k.1 c6
    refine aw_iinc (v := (x1 + 1)) [(0, .ref 1), (1, .int (x1 + 1)), (2, .int x2)] d_X12_findLending_42 1 rfl rfl (Nat.le_of_ble_eq_true rfl) rfl rfl ?_
    refine aw_goto (tgt := 2) d_X12_findLending_45 rfl ?_
    exact aw_lvp [0, 1] [(0, .ref 1), (1, .int (x1 + 1))] rfl k
  · have k := k.2 c6
    refine aw_aload_n (i := 0) rfl d_X12_findLending_20 0 rfl ?_
    refine aw_getr (k0 := 121) kc_12 (ws_1 w) (Nat.le_of_ble_eq_true rfl) tw_1863 d_X12_findLending_21 rfl (wr_1_121 w) ?_
    refine aw_iconst (v := 4) d_X12_findLending_24 ic_4 ?_
    refine aw_iload_n (i := 1) rfl d_X12_findLending_25 1 rfl ?_
    refine aw_imul d_X12_findLending_26 ?_
    refine aw_iload_n (i := 2) rfl d_X12_findLending_27 2 rfl ?_
    refine aw_iadd d_X12_findLending_28 ?_
    refine aw_aload_n (i := 0) rfl d_X12_findLending_29 0 rfl ?_
    refine aw_iload_n (i := 1) rfl d_X12_findLending_30 1 rfl ?_
    refine aw_iload_n (i := 2) rfl d_X12_findLending_31 2 rfl ?_
    refine aw_Vi 1 [.int x1, .int x2] [.int ((4 * x1) + x2), .ref 292] d_X12_findLending_32 (cV_X12_costOf (d + 1) 0 0) kc_12 (ws_1 w) tw_2647 rfl (rr0 (Nat.le_of_ble_eq_true rfl) (Nat.le_of_ble_eq_true rfl)) (Nat.le_of_ble_eq_true rfl) xs0 k (fun r9 h7 kk => ?_)
    obtain ⟨w8, k⟩ := kk
    obtain ⟨b10, k⟩ := k
    refine aw_iast (ws_292 w8) b10 d_X12_findLending_35 ?_
    refine aw_iinc (v := (x2 + 1)) [(0, .ref 1), (1, .int x1), (2, .int (x2 + 1))] d_X12_findLending_36 2 rfl rfl (Nat.le_of_ble_eq_true rfl) rfl rfl ?_
    refine aw_goto (tgt := 12) d_X12_findLending_39 rfl ?_
    exact k
theorem t_X12_findLending_96 (d : Nat) (h : Hp_) (w : Wf h) (x1 : Int32) (K : Int32 → Hp_ → Prop) (k : (x1 < 0 → Ci (m_X12_codeAll (d + 0) 0 0) [.ref 1] h (fun r14 h12 => Wf h12 ∧ (vp_in r14 3328 ∧ (K (h_i h12 291 r14.toNatClampNeg) h12)))) ∧ (¬ x1 < 0 → AW (m_X12_findLending (d + 2) 0 0) 0 0 102 [(0, .ref 1), (1, .int x1), (2, .int 0)] [] h (kI K))) : AW (m_X12_findLending (d + 2) 0 0) 0 0 96 [(0, .ref 1), (1, .int x1)] [] h (kI K) := by
  refine aw_iload_n (i := 1) rfl d_X12_findLending_96 1 rfl ?_
  refine aw_if_lt (tgt := 249) d_X12_findLending_97 rfl (fun c11 => ?_) (fun c11 => ?_)
  · have k := k.1 c11
    refine aw_aload_n (i := 0) rfl d_X12_findLending_249 0 rfl ?_
    refine aw_getr (k0 := 120) kc_12 (ws_1 w) (Nat.le_of_ble_eq_true rfl) tw_1862 d_X12_findLending_250 rfl (wr_1_120 w) ?_
    refine aw_aload_n (i := 0) rfl d_X12_findLending_253 0 rfl ?_
    refine aw_Vi 1 [] [.ref 291] d_X12_findLending_254 (cV_X12_codeAll (d + 0) 0 0) kc_12 (ws_1 w) tw_2656 rfl (rr0 (Nat.le_of_ble_eq_true rfl) (Nat.le_of_ble_eq_true rfl)) (Nat.le_of_ble_eq_true rfl) xs0 k (fun r14 h12 kk => ?_)
    obtain ⟨w13, k⟩ := kk
    obtain ⟨b15, k⟩ := k
    refine aw_iald (ws_291 w13) b15 d_X12_findLending_257 ?_
    exact aw_iret rfl d_X12_findLending_258 ⟨Nat.le_refl _, Nat.le_refl _⟩ ⟨_, rfl, k⟩
  · have k := k.2 c11
    refine aw_iconst (v := 0) d_X12_findLending_100 ic_0 ?_
    refine aw_istore_n (i := 2) rfl [(0, .ref 1), (1, .int x1), (2, .int 0)] d_X12_findLending_101 (Nat.le_of_ble_eq_true rfl) rfl rfl ?_
    exact k
theorem t_X12_findLending_102 (d : Nat) (h : Hp_) (w : Wf h) (x1 : Int32) (x2 : Int32) (K : Int32 → Hp_ → Prop) (k : (256 ≤ x2 → AW (m_X12_findLending (d + 2) 0 0) 0 0 96 [(0, .ref 1), (1, .int (x1 + (-1)))] [] h (kI K)) ∧ (¬ 256 ≤ x2 → vp_in ((256 * (x1 + 1)) + x2) 3328 ∧ (AW (m_X12_findLending (d + 2) 0 0) 0 0 127 [(0, .ref 1), (1, .int x1), (2, .int x2), (3, .int (h_i h 291 (((256 * (x1 + 1)) + x2) : Int32).toNatClampNeg)), (4, .int 0)] [] h (kI K)))) : AW (m_X12_findLending (d + 2) 0 0) 0 0 102 [(0, .ref 1), (1, .int x1), (2, .int x2)] [] h (kI K) := by
  refine aw_iload_n (i := 2) rfl d_X12_findLending_102 2 rfl ?_
  refine aw_sipush (v := 256) d_X12_findLending_103 is_256 ?_
  refine aw_icmp_ge (tgt := 243) d_X12_findLending_106 rfl (fun c16 => ?_) (fun c16 => ?_)
  · have k := k.1 c16
    refine aw_iinc (v := (x1 + (-1))) [(0, .ref 1), (1, .int (x1 + (-1))), (2, .int x2)] d_X12_findLending_243 1 rfl rfl (Nat.le_of_ble_eq_true rfl) rfl rfl ?_
    refine aw_goto (tgt := 96) d_X12_findLending_246 rfl ?_
    exact aw_lvp [0, 1] [(0, .ref 1), (1, .int (x1 + (-1)))] rfl k
  · have k := k.2 c16
    refine aw_aload_n (i := 0) rfl d_X12_findLending_109 0 rfl ?_
    refine aw_getr (k0 := 120) kc_12 (ws_1 w) (Nat.le_of_ble_eq_true rfl) tw_1862 d_X12_findLending_110 rfl (wr_1_120 w) ?_
    refine aw_sipush (v := 256) d_X12_findLending_113 is_256 ?_
    refine aw_iload_n (i := 1) rfl d_X12_findLending_116 1 rfl ?_
    refine aw_iconst (v := 1) d_X12_findLending_117 ic_1 ?_
    refine aw_iadd d_X12_findLending_118 ?_
    refine aw_imul d_X12_findLending_119 ?_
    refine aw_iload_n (i := 2) rfl d_X12_findLending_120 2 rfl ?_
    refine aw_iadd d_X12_findLending_121 ?_
    obtain ⟨b17, k⟩ := k
    refine aw_iald (ws_291 w) b17 d_X12_findLending_122 ?_
    refine aw_istore_n (i := 3) rfl [(0, .ref 1), (1, .int x1), (2, .int x2), (3, .int (h_i h 291 (((256 * (x1 + 1)) + x2) : Int32).toNatClampNeg))] d_X12_findLending_123 (Nat.le_of_ble_eq_true rfl) rfl rfl ?_
    refine aw_iconst (v := 0) d_X12_findLending_124 ic_0 ?_
    refine aw_istore [(0, .ref 1), (1, .int x1), (2, .int x2), (3, .int (h_i h 291 (((256 * (x1 + 1)) + x2) : Int32).toNatClampNeg)), (4, .int 0)] d_X12_findLending_125 (Nat.le_of_ble_eq_true rfl) rfl rfl ?_
    exact k
theorem t_X12_findLending_127 (d : Nat) (h : Hp_) (w : Wf h) (x1 : Int32) (x2 : Int32) (x3 : Int32) (x4 : Int32) (K : Int32 → Hp_ → Prop) (k : ((h_i h 1 119) ≤ x4 → vp_in ((256 * x1) + x2) 3328 ∧ (AW (m_X12_findLending (d + 2) 0 0) 0 0 102 [(0, .ref 1), (1, .int x1), (2, .int (x2 + 1))] [] (h_im h 291 (((256 * x1) + x2) : Int32).toNatClampNeg x3) (kI K))) ∧ (¬ (h_i h 1 119) ≤ x4 → Ci (m_X12_wanted (d + 0) 0 0) [.int x2, .int x4] h (fun r22 h20 => Wf h20 ∧ ((r22 ≤ 0 → AW (m_X12_findLending (d + 2) 0 0) 0 0 127 [(0, .ref 1), (1, .int x1), (2, .int x2), (3, .int x3), (4, .int (x4 + 1))] [] h20 (kI K)) ∧ (¬ r22 ≤ 0 → vp_in ((4 * x1) + x4) 48 ∧ ((1000000000 ≤ (h_i h20 292 (((4 * x1) + x4) : Int32).toNatClampNeg) → AW (m_X12_findLending (d + 2) 0 0) 0 0 127 [(0, .ref 1), (1, .int x1), (2, .int x2), (3, .int x3), (4, .int (x4 + 1))] [] h20 (kI K)) ∧ (¬ 1000000000 ≤ (h_i h20 292 (((4 * x1) + x4) : Int32).toNatClampNeg) → vp_in (((256 * (x1 + 1)) + x2) - ((1 : Int32) <<< ((2 * x4) &&& 31))) 3328 ∧ ((¬ (h_i h20 291 ((((256 * (x1 + 1)) + x2) - ((1 : Int32) <<< ((2 * x4) &&& 31))) : Int32).toNatClampNeg) = 1000000000 → vp_in ((4 * x1) + x4) 48 ∧ (Ci (m_J9_min_7cf53 (d + 0) 0 0) [.int x3, .int ((h_i h20 292 (((4 * x1) + x4) : Int32).toNatClampNeg) + (h_i h20 291 ((((256 * (x1 + 1)) + x2) - ((1 : Int32) <<< ((2 * x4) &&& 31))) : Int32).toNatClampNeg))] h20 (fun r31 h29 => Wf h29 ∧ (AW (m_X12_findLending (d + 2) 0 0) 0 0 127 [(0, .ref 1), (1, .int x1), (2, .int x2), (3, .int r31), (4, .int (x4 + 1))] [] h29 (kI K))))) ∧ ((h_i h20 291 ((((256 * (x1 + 1)) + x2) - ((1 : Int32) <<< ((2 * x4) &&& 31))) : Int32).toNatClampNeg) = 1000000000 → Ci (m_J9_min_7cf53 (d + 0) 0 0) [.int x3, .int 1000000000] h20 (fun r34 h32 => Wf h32 ∧ (AW (m_X12_findLending (d + 2) 0 0) 0 0 127 [(0, .ref 1), (1, .int x1), (2, .int x2), (3, .int r34), (4, .int (x4 + 1))] [] h32 (kI K)))))))))))) : AW (m_X12_findLending (d + 2) 0 0) 0 0 127 [(0, .ref 1), (1, .int x1), (2, .int x2), (3, .int x3), (4, .int x4)] [] h (kI K) := by
  refine aw_iload d_X12_findLending_127 4 rfl ?_
  refine aw_aload_n (i := 0) rfl d_X12_findLending_129 0 rfl ?_
  refine aw_geti (k0 := 119) kc_12 (ws_1 w) (Nat.le_of_ble_eq_true rfl) tw_1861 d_X12_findLending_130 rfl ?_
  refine aw_icmp_ge (tgt := 224) d_X12_findLending_133 rfl (fun c18 => ?_) (fun c18 => ?_)
  · have k := k.1 c18
    refine aw_aload_n (i := 0) rfl d_X12_findLending_224 0 rfl ?_
    refine aw_getr (k0 := 120) kc_12 (ws_1 w) (Nat.le_of_ble_eq_true rfl) tw_1862 d_X12_findLending_225 rfl (wr_1_120 w) ?_
    refine aw_sipush (v := 256) d_X12_findLending_228 is_256 ?_
    refine aw_iload_n (i := 1) rfl d_X12_findLending_231 1 rfl ?_
    refine aw_imul d_X12_findLending_232 ?_
    refine aw_iload_n (i := 2) rfl d_X12_findLending_233 2 rfl ?_
    refine aw_iadd d_X12_findLending_234 ?_
    refine aw_iload_n (i := 3) rfl d_X12_findLending_235 3 rfl ?_
    obtain ⟨b19, k⟩ := k
    refine aw_iast (ws_291 w) b19 d_X12_findLending_236 ?_
    refine aw_iinc (v := (x2 + 1)) [(0, .ref 1), (1, .int x1), (2, .int (x2 + 1)), (3, .int x3), (4, .int x4)] d_X12_findLending_237 2 rfl rfl (Nat.le_of_ble_eq_true rfl) rfl rfl ?_
    refine aw_goto (tgt := 102) d_X12_findLending_240 rfl ?_
    exact aw_lvp [0, 1, 2] [(0, .ref 1), (1, .int x1), (2, .int (x2 + 1))] rfl k
  · have k := k.2 c18
    refine aw_iload_n (i := 2) rfl d_X12_findLending_136 2 rfl ?_
    refine aw_iload d_X12_findLending_137 4 rfl ?_
    refine aw_Si [.int x2, .int x4] [] d_X12_findLending_139 (cS_X12_wanted (d + 0) 0 0) tw_2653 rfl (rr0 (Nat.le_of_ble_eq_true rfl) (Nat.le_of_ble_eq_true rfl)) (Nat.le_of_ble_eq_true rfl) xs0 k (fun r22 h20 kk => ?_)
    obtain ⟨w21, k⟩ := kk
    refine aw_if_le (tgt := 218) d_X12_findLending_142 rfl (fun c23 => ?_) (fun c23 => ?_)
    · have k := k.1 c23
      refine aw_iinc (v := (x4 + 1)) [(0, .ref 1), (1, .int x1), (2, .int x2), (3, .int x3), (4, .int (x4 + 1))] d_X12_findLending_218 4 rfl rfl (Nat.le_of_ble_eq_true rfl) rfl rfl ?_
      refine aw_goto (tgt := 127) d_X12_findLending_221 rfl ?_
      exact k
    · have k := k.2 c23
      refine aw_aload_n (i := 0) rfl d_X12_findLending_145 0 rfl ?_
      refine aw_getr (k0 := 121) kc_12 (ws_1 w21) (Nat.le_of_ble_eq_true rfl) tw_1863 d_X12_findLending_146 rfl (wr_1_121 w21) ?_
      refine aw_iconst (v := 4) d_X12_findLending_149 ic_4 ?_
      refine aw_iload_n (i := 1) rfl d_X12_findLending_150 1 rfl ?_
      refine aw_imul d_X12_findLending_151 ?_
      refine aw_iload d_X12_findLending_152 4 rfl ?_
      refine aw_iadd d_X12_findLending_154 ?_
      obtain ⟨b24, k⟩ := k
      refine aw_iald (ws_292 w21) b24 d_X12_findLending_155 ?_
      refine aw_ldcw (v := 1000000000) d_X12_findLending_156 tw_2651 ?_
      refine aw_icmp_ge (tgt := 218) d_X12_findLending_159 rfl (fun c25 => ?_) (fun c25 => ?_)
      · have k := k.1 c25
        refine aw_iinc (v := (x4 + 1)) [(0, .ref 1), (1, .int x1), (2, .int x2), (3, .int x3), (4, .int (x4 + 1))] d_X12_findLending_218 4 rfl rfl (Nat.le_of_ble_eq_true rfl) rfl rfl ?_
        refine aw_goto (tgt := 127) d_X12_findLending_221 rfl ?_
        exact k
      · have k := k.2 c25
        refine aw_aload_n (i := 0) rfl d_X12_findLending_162 0 rfl ?_
        refine aw_getr (k0 := 120) kc_12 (ws_1 w21) (Nat.le_of_ble_eq_true rfl) tw_1862 d_X12_findLending_163 rfl (wr_1_120 w21) ?_
        refine aw_sipush (v := 256) d_X12_findLending_166 is_256 ?_
        refine aw_iload_n (i := 1) rfl d_X12_findLending_169 1 rfl ?_
        refine aw_iconst (v := 1) d_X12_findLending_170 ic_1 ?_
        refine aw_iadd d_X12_findLending_171 ?_
        refine aw_imul d_X12_findLending_172 ?_
        refine aw_iload_n (i := 2) rfl d_X12_findLending_173 2 rfl ?_
        refine aw_iadd d_X12_findLending_174 ?_
        refine aw_iconst (v := 1) d_X12_findLending_175 ic_1 ?_
        refine aw_iconst (v := 2) d_X12_findLending_176 ic_2 ?_
        refine aw_iload d_X12_findLending_177 4 rfl ?_
        refine aw_imul d_X12_findLending_179 ?_
        refine aw_ishl d_X12_findLending_180 ?_
        refine aw_isub d_X12_findLending_181 ?_
        obtain ⟨b26, k⟩ := k
        refine aw_iald (ws_291 w21) b26 d_X12_findLending_182 ?_
        refine aw_istore [(0, .ref 1), (1, .int x1), (2, .int x2), (3, .int x3), (4, .int x4), (5, .int (h_i h20 291 ((((256 * (x1 + 1)) + x2) - ((1 : Int32) <<< ((2 * x4) &&& 31))) : Int32).toNatClampNeg))] d_X12_findLending_183 (Nat.le_of_ble_eq_true rfl) rfl rfl ?_
        refine aw_iload_n (i := 3) rfl d_X12_findLending_185 3 rfl ?_
        refine aw_iload d_X12_findLending_186 5 rfl ?_
        refine aw_ldcw (v := 1000000000) d_X12_findLending_188 tw_2651 ?_
        refine aw_icmp_ne (tgt := 200) d_X12_findLending_191 rfl (fun c27 => ?_) (fun c27 => ?_)
        · have k := k.1 c27
          refine aw_aload_n (i := 0) rfl d_X12_findLending_200 0 rfl ?_
          refine aw_getr (k0 := 121) kc_12 (ws_1 w21) (Nat.le_of_ble_eq_true rfl) tw_1863 d_X12_findLending_201 rfl (wr_1_121 w21) ?_
          refine aw_iconst (v := 4) d_X12_findLending_204 ic_4 ?_
          refine aw_iload_n (i := 1) rfl d_X12_findLending_205 1 rfl ?_
          refine aw_imul d_X12_findLending_206 ?_
          refine aw_iload d_X12_findLending_207 4 rfl ?_
          refine aw_iadd d_X12_findLending_209 ?_
          obtain ⟨b28, k⟩ := k
          refine aw_iald (ws_292 w21) b28 d_X12_findLending_210 ?_
          refine aw_iload d_X12_findLending_211 5 rfl ?_
          refine aw_iadd d_X12_findLending_213 ?_
          refine aw_Si [.int x3, .int ((h_i h20 292 (((4 * x1) + x4) : Int32).toNatClampNeg) + (h_i h20 291 ((((256 * (x1 + 1)) + x2) - ((1 : Int32) <<< ((2 * x4) &&& 31))) : Int32).toNatClampNeg))] [] d_X12_findLending_214 (cS_J9_min_7cf53 (d + 0) 0 0) tw_2556 rfl (rr0 (Nat.le_of_ble_eq_true rfl) (Nat.le_of_ble_eq_true rfl)) (Nat.le_of_ble_eq_true rfl) xs0 k (fun r31 h29 kk => ?_)
          obtain ⟨w30, k⟩ := kk
          refine aw_istore_n (i := 3) rfl [(0, .ref 1), (1, .int x1), (2, .int x2), (3, .int r31), (4, .int x4), (5, .int (h_i h20 291 ((((256 * (x1 + 1)) + x2) - ((1 : Int32) <<< ((2 * x4) &&& 31))) : Int32).toNatClampNeg))] d_X12_findLending_217 (Nat.le_of_ble_eq_true rfl) rfl rfl ?_
          refine aw_iinc (v := (x4 + 1)) [(0, .ref 1), (1, .int x1), (2, .int x2), (3, .int r31), (4, .int (x4 + 1)), (5, .int (h_i h20 291 ((((256 * (x1 + 1)) + x2) - ((1 : Int32) <<< ((2 * x4) &&& 31))) : Int32).toNatClampNeg))] d_X12_findLending_218 4 rfl rfl (Nat.le_of_ble_eq_true rfl) rfl rfl ?_
          refine aw_goto (tgt := 127) d_X12_findLending_221 rfl ?_
          exact aw_lvp [0, 1, 2, 3, 4] [(0, .ref 1), (1, .int x1), (2, .int x2), (3, .int r31), (4, .int (x4 + 1))] rfl k
        · have k := k.2 c27
          refine aw_ldcw (v := 1000000000) d_X12_findLending_194 tw_2651 ?_
          refine aw_goto (tgt := 214) d_X12_findLending_197 rfl ?_
          refine aw_Si [.int x3, .int 1000000000] [] d_X12_findLending_214 (cS_J9_min_7cf53 (d + 0) 0 0) tw_2556 rfl (rr0 (Nat.le_of_ble_eq_true rfl) (Nat.le_of_ble_eq_true rfl)) (Nat.le_of_ble_eq_true rfl) xs0 k (fun r34 h32 kk => ?_)
          obtain ⟨w33, k⟩ := kk
          refine aw_istore_n (i := 3) rfl [(0, .ref 1), (1, .int x1), (2, .int x2), (3, .int r34), (4, .int x4), (5, .int (h_i h20 291 ((((256 * (x1 + 1)) + x2) - ((1 : Int32) <<< ((2 * x4) &&& 31))) : Int32).toNatClampNeg))] d_X12_findLending_217 (Nat.le_of_ble_eq_true rfl) rfl rfl ?_
          refine aw_iinc (v := (x4 + 1)) [(0, .ref 1), (1, .int x1), (2, .int x2), (3, .int r34), (4, .int (x4 + 1)), (5, .int (h_i h20 291 ((((256 * (x1 + 1)) + x2) - ((1 : Int32) <<< ((2 * x4) &&& 31))) : Int32).toNatClampNeg))] d_X12_findLending_218 4 rfl rfl (Nat.le_of_ble_eq_true rfl) rfl rfl ?_
          refine aw_goto (tgt := 127) d_X12_findLending_221 rfl ?_
          exact aw_lvp [0, 1, 2, 3, 4] [(0, .ref 1), (1, .int x1), (2, .int x2), (3, .int r34), (4, .int (x4 + 1))] rfl k
theorem t_X12_lending (d : Nat) (h : Hp_) (w : Wf h) (x1 : Int32) (K : Int32 → Hp_ → Prop) (k : (¬ (0 ≤ x1 ∧ x1 ≤ 1) → K (-1) h) ∧ ((0 ≤ x1 ∧ x1 ≤ 1) → Ci (m_X12_findLending (d + 2) 0 0) [.ref 1] h (fun r7 h5 => Wf h5 ∧ ((¬ r7 = 1000000000 → (¬ x1 = 0 → K (r7 - r7 / 1000000 * 1000000) h5) ∧ (x1 = 0 → K (r7 / 1000000) h5)) ∧ (r7 = 1000000000 → K (-1) h5))))) : Ci (m_X12_lending (d + 3) 0 0) [.ref 1, .int x1] h K := by
  refine Ct.of (fun _ _ _ => trivial) rfl (Nat.le_of_ble_eq_true rfl) ?_
  show AW (m_X12_lending (d + 3) 0 0) 0 0 0 [(0, .ref 1), (1, .int x1)] [] h (kI K)
  refine aw_iload_n (i := 1) rfl d_X12_lending_0 1 rfl ?_
  refine aw_iconst (v := 0) d_X12_lending_1 ic_0 ?_
  refine aw_iconst (v := 1) d_X12_lending_2 ic_1 ?_
  refine aw_Si [.int x1, .int 0, .int 1] [] d_X12_lending_3 (cS_X12_in (d + 0) 0 0) tw_2147 rfl (rr0 (Nat.le_of_ble_eq_true rfl) (Nat.le_of_ble_eq_true rfl)) (Nat.le_of_ble_eq_true rfl) xs0 (s_X12_in _ _ x1 0 1) (fun _ _ kk => ?_)
  obtain ⟨e1, e2⟩ := kk
  rw [e1, e2]
  refine aw_ifb_eq (tgt := 16) d_X12_lending_6 rfl (fun c3 => ?_) (fun c3 => ?_)
  · have k := k.1 c3
    refine aw_ldcw (v := 1000000000) d_X12_lending_16 tw_2651 ?_
    refine aw_istore_n (i := 2) rfl [(0, .ref 1), (1, .int x1), (2, .int 1000000000)] d_X12_lending_19 (Nat.le_of_ble_eq_true rfl) rfl rfl ?_
    refine aw_iload_n (i := 2) rfl d_X12_lending_20 2 rfl ?_
    refine aw_ldcw (v := 1000000000) d_X12_lending_21 tw_2651 ?_
    refine aw_icmp_ne (tgt := 31) d_X12_lending_24 rfl (fun c => absurd c (by decide)) (fun _ => ?_)
    refine aw_iconst (v := (-1)) d_X12_lending_27 ic_m1 ?_
    refine aw_goto (tgt := 48) d_X12_lending_28 rfl ?_
    exact aw_iret rfl d_X12_lending_48 ⟨Nat.le_refl _, Nat.le_refl _⟩ ⟨_, rfl, k⟩
  · have k := k.2 c3
    refine aw_aload_n (i := 0) rfl d_X12_lending_9 0 rfl ?_
    refine aw_Vi 1 [] [] d_X12_lending_10 (cV_X12_findLending (d + 2) 0 0) kc_12 (ws_1 w) tw_2643 rfl (rr0 (Nat.le_of_ble_eq_true rfl) (Nat.le_of_ble_eq_true rfl)) (Nat.le_of_ble_eq_true rfl) xs0 k (fun r7 h5 kk => ?_)
    obtain ⟨w6, k⟩ := kk
    refine aw_goto (tgt := 19) d_X12_lending_13 rfl ?_
    refine aw_istore_n (i := 2) rfl [(0, .ref 1), (1, .int x1), (2, .int r7)] d_X12_lending_19 (Nat.le_of_ble_eq_true rfl) rfl rfl ?_
    refine aw_iload_n (i := 2) rfl d_X12_lending_20 2 rfl ?_
    refine aw_ldcw (v := 1000000000) d_X12_lending_21 tw_2651 ?_
    refine aw_icmp_ne (tgt := 31) d_X12_lending_24 rfl (fun c8 => ?_) (fun c8 => ?_)
    · have k := k.1 c8
      refine aw_iload_n (i := 1) rfl d_X12_lending_31 1 rfl ?_
      refine aw_if_ne (tgt := 43) d_X12_lending_32 rfl (fun c9 => ?_) (fun c9 => ?_)
      · have k := k.1 c9
        refine aw_iload_n (i := 2) rfl d_X12_lending_43 2 rfl ?_
        refine aw_ldcw (v := 1000000) d_X12_lending_44 tw_2652 ?_
        refine aw_irem d_X12_lending_47 (by decide) ?_
        exact aw_iret rfl d_X12_lending_48 ⟨Nat.le_refl _, Nat.le_refl _⟩ ⟨_, rfl, k⟩
      · have k := k.2 c9
        refine aw_iload_n (i := 2) rfl d_X12_lending_35 2 rfl ?_
        refine aw_ldcw (v := 1000000) d_X12_lending_36 tw_2652 ?_
        refine aw_idiv d_X12_lending_39 (by decide) ?_
        refine aw_goto (tgt := 48) d_X12_lending_40 rfl ?_
        exact aw_iret rfl d_X12_lending_48 ⟨Nat.le_refl _, Nat.le_refl _⟩ ⟨_, rfl, k⟩
    · have k := k.2 c8
      refine aw_iconst (v := (-1)) d_X12_lending_27 ic_m1 ?_
      refine aw_goto (tgt := 48) d_X12_lending_28 rfl ?_
      exact aw_iret rfl d_X12_lending_48 ⟨Nat.le_refl _, Nat.le_refl _⟩ ⟨_, rfl, k⟩
theorem t_X12_tick (d : Nat) (h : Hp_) (w : Wf h) (x1 : Int32) (K : Int32 → Hp_ → Prop) (k : (¬ (0 ≤ x1 ∧ x1 ≤ 1500) → K (-1) h) ∧ ((0 ≤ x1 ∧ x1 ≤ 1500) → (((h_i h 1 0) + x1) ≤ 20000 → AW (m_X12_tick (d + 10) 0 0) 0 0 27 [(0, .ref 1), (1, .int x1), (2, .int 0)] [] h (kI K)) ∧ (¬ ((h_i h 1 0) + x1) ≤ 20000 → K (-1) h))) : Ci (m_X12_tick (d + 10) 0 0) [.ref 1, .int x1] h K := by
  refine Ct.of (fun _ _ _ => trivial) rfl (Nat.le_of_ble_eq_true rfl) ?_
  show AW (m_X12_tick (d + 10) 0 0) 0 0 0 [(0, .ref 1), (1, .int x1)] [] h (kI K)
  refine aw_iload_n (i := 1) rfl d_X12_tick_0 1 rfl ?_
  refine aw_iconst (v := 0) d_X12_tick_1 ic_0 ?_
  refine aw_sipush (v := 1500) d_X12_tick_2 is_1500 ?_
  refine aw_Si [.int x1, .int 0, .int 1500] [] d_X12_tick_5 (cS_X12_in (d + 0) 0 0) tw_2147 rfl (rr0 (Nat.le_of_ble_eq_true rfl) (Nat.le_of_ble_eq_true rfl)) (Nat.le_of_ble_eq_true rfl) xs0 (s_X12_in _ _ x1 0 1500) (fun _ _ kk => ?_)
  obtain ⟨e1, e2⟩ := kk
  rw [e1, e2]
  refine aw_ifb_eq (tgt := 23) d_X12_tick_8 rfl (fun c3 => ?_) (fun c3 => ?_)
  · have k := k.1 c3
    refine aw_iconst (v := (-1)) d_X12_tick_23 ic_m1 ?_
    exact aw_iret rfl d_X12_tick_24 ⟨Nat.le_refl _, Nat.le_refl _⟩ ⟨_, rfl, k⟩
  · have k := k.2 c3
    refine aw_aload_n (i := 0) rfl d_X12_tick_11 0 rfl ?_
    refine aw_geti (k0 := 0) kc_12 (ws_1 w) (Nat.le_of_ble_eq_true rfl) tw_1742 d_X12_tick_12 rfl ?_
    refine aw_iload_n (i := 1) rfl d_X12_tick_15 1 rfl ?_
    refine aw_iadd d_X12_tick_16 ?_
    refine aw_sipush (v := 20000) d_X12_tick_17 is_20000 ?_
    refine aw_icmp_le (tgt := 25) d_X12_tick_20 rfl (fun c4 => ?_) (fun c4 => ?_)
    · have k := k.1 c4
      refine aw_iconst (v := 0) d_X12_tick_25 ic_0 ?_
      refine aw_istore_n (i := 2) rfl [(0, .ref 1), (1, .int x1), (2, .int 0)] d_X12_tick_26 (Nat.le_of_ble_eq_true rfl) rfl rfl ?_
      exact k
    · have k := k.2 c4
      refine aw_iconst (v := (-1)) d_X12_tick_23 ic_m1 ?_
      exact aw_iret rfl d_X12_tick_24 ⟨Nat.le_refl _, Nat.le_refl _⟩ ⟨_, rfl, k⟩
theorem t_X12_tick_27 (d : Nat) (h : Hp_) (w : Wf h) (x1 : Int32) (x2 : Int32) (K : Int32 → Hp_ → Prop) (k : (x1 ≤ x2 → K (h_i h 1 0) h) ∧ (¬ x1 ≤ x2 → AW (m_X12_tick (d + 10) 0 0) 0 0 34 [(0, .ref 1), (1, .int x1), (2, .int x2), (3, .int 0)] [] h (kI K))) : AW (m_X12_tick (d + 10) 0 0) 0 0 27 [(0, .ref 1), (1, .int x1), (2, .int x2)] [] h (kI K) := by
  refine aw_iload_n (i := 2) rfl d_X12_tick_27 2 rfl ?_
  refine aw_iload_n (i := 1) rfl d_X12_tick_28 1 rfl ?_
  refine aw_icmp_ge (tgt := 107) d_X12_tick_29 rfl (fun c5 => ?_) (fun c5 => ?_)
  · have k := k.1 c5
    refine aw_aload_n (i := 0) rfl d_X12_tick_107 0 rfl ?_
    refine aw_geti (k0 := 0) kc_12 (ws_1 w) (Nat.le_of_ble_eq_true rfl) tw_1742 d_X12_tick_108 rfl ?_
    exact aw_iret rfl d_X12_tick_111 ⟨Nat.le_refl _, Nat.le_refl _⟩ ⟨_, rfl, k⟩
  · have k := k.2 c5
    refine aw_iconst (v := 0) d_X12_tick_32 ic_0 ?_
    refine aw_istore_n (i := 3) rfl [(0, .ref 1), (1, .int x1), (2, .int x2), (3, .int 0)] d_X12_tick_33 (Nat.le_of_ble_eq_true rfl) rfl rfl ?_
    exact k
theorem t_X12_tick_34 (d : Nat) (h : Hp_) (w : Wf h) (x1 : Int32) (x2 : Int32) (x3 : Int32) (K : Int32 → Hp_ → Prop) (k : ((h_i h 1 7) ≤ x3 → AW (m_X12_tick (d + 10) 0 0) 0 0 82 [(0, .ref 1), (1, .int x1), (2, .int x2), (3, .int 0)] [] (h_im h 1 0 ((h_i h 1 0) + 1)) (kI K)) ∧ (¬ (h_i h 1 7) ≤ x3 → vp_in x3 12 ∧ (vp_in ((20001 * x3) + (h_i h 1 0)) 240012 ∧ (AW (m_X12_tick (d + 10) 0 0) 0 0 34 [(0, .ref 1), (1, .int x1), (2, .int x2), (3, .int (x3 + 1))] [] (h_im h 220 (((20001 * x3) + (h_i h 1 0)) : Int32).toNatClampNeg (vp_nar .byte (((h_i h 209 x3.toNatClampNeg) : Int32).toInt8.toInt32))) (kI K))))) : AW (m_X12_tick (d + 10) 0 0) 0 0 34 [(0, .ref 1), (1, .int x1), (2, .int x2), (3, .int x3)] [] h (kI K) := by
  refine aw_iload_n (i := 3) rfl d_X12_tick_34 3 rfl ?_
  refine aw_aload_n (i := 0) rfl d_X12_tick_35 0 rfl ?_
  refine aw_geti (k0 := 7) kc_12 (ws_1 w) (Nat.le_of_ble_eq_true rfl) tw_1749 d_X12_tick_36 rfl ?_
  refine aw_icmp_ge (tgt := 70) d_X12_tick_39 rfl (fun c6 => ?_) (fun c6 => ?_)
  · have k := k.1 c6
    refine aw_aload_n (i := 0) rfl d_X12_tick_70 0 rfl ?_
    refine aw_dup d_X12_tick_71 rfl ?_
    refine aw_geti (k0 := 0) kc_12 (ws_1 w) (Nat.le_of_ble_eq_true rfl) tw_1742 d_X12_tick_72 rfl ?_
    refine aw_iconst (v := 1) d_X12_tick_75 ic_1 ?_
    refine aw_iadd d_X12_tick_76 ?_
    refine aw_puti (k0 := 0) kc_12 (ws_1 w) (Nat.le_of_ble_eq_true rfl) tw_1742 d_X12_tick_77 rfl rfl nf_i ?_
    refine aw_iconst (v := 0) d_X12_tick_80 ic_0 ?_
    refine aw_istore_n (i := 3) rfl [(0, .ref 1), (1, .int x1), (2, .int x2), (3, .int 0)] d_X12_tick_81 (Nat.le_of_ble_eq_true rfl) rfl rfl ?_
    exact k
  · have k := k.2 c6
    refine aw_aload_n (i := 0) rfl d_X12_tick_42 0 rfl ?_
    refine aw_getr (k0 := 24) kc_12 (ws_1 w) (Nat.le_of_ble_eq_true rfl) tw_1766 d_X12_tick_43 rfl (wr_1_24 w) ?_
    refine aw_sipush (v := 20001) d_X12_tick_46 is_20001 ?_
    refine aw_iload_n (i := 3) rfl d_X12_tick_49 3 rfl ?_
    refine aw_imul d_X12_tick_50 ?_
    refine aw_aload_n (i := 0) rfl d_X12_tick_51 0 rfl ?_
    refine aw_geti (k0 := 0) kc_12 (ws_1 w) (Nat.le_of_ble_eq_true rfl) tw_1742 d_X12_tick_52 rfl ?_
    refine aw_iadd d_X12_tick_55 ?_
    refine aw_aload_n (i := 0) rfl d_X12_tick_56 0 rfl ?_
    refine aw_getr (k0 := 13) kc_12 (ws_1 w) (Nat.le_of_ble_eq_true rfl) tw_1755 d_X12_tick_57 rfl (wr_1_13 w) ?_
    refine aw_iload_n (i := 3) rfl d_X12_tick_60 3 rfl ?_
    obtain ⟨b7, k⟩ := k
    refine aw_iald (ws_209 w) b7 d_X12_tick_61 ?_
    refine aw_i2b d_X12_tick_62 ?_
    obtain ⟨b8, k⟩ := k
    refine aw_bast (ws_220 w) b8 d_X12_tick_63 ?_
    refine aw_iinc (v := (x3 + 1)) [(0, .ref 1), (1, .int x1), (2, .int x2), (3, .int (x3 + 1))] d_X12_tick_64 3 rfl rfl (Nat.le_of_ble_eq_true rfl) rfl rfl ?_
    refine aw_goto (tgt := 34) d_X12_tick_67 rfl ?_
    exact k
theorem t_X12_tick_82 (d : Nat) (h : Hp_) (w : Wf h) (x1 : Int32) (x2 : Int32) (x3 : Int32) (K : Int32 → Hp_ → Prop) (k : ((h_i h 1 7) ≤ x3 → AW (m_X12_tick (d + 10) 0 0) 0 0 27 [(0, .ref 1), (1, .int x1), (2, .int (x2 + 1))] [] h (kI K)) ∧ (¬ (h_i h 1 7) ≤ x3 → Cv (m_X12_wake (d + 9) 0 0) [.ref 1, .int x3] h (fun h10 => Wf h10 ∧ (AW (m_X12_tick (d + 10) 0 0) 0 0 82 [(0, .ref 1), (1, .int x1), (2, .int x2), (3, .int (x3 + 1))] [] h10 (kI K))))) : AW (m_X12_tick (d + 10) 0 0) 0 0 82 [(0, .ref 1), (1, .int x1), (2, .int x2), (3, .int x3)] [] h (kI K) := by
  refine aw_iload_n (i := 3) rfl d_X12_tick_82 3 rfl ?_
  refine aw_aload_n (i := 0) rfl d_X12_tick_83 0 rfl ?_
  refine aw_geti (k0 := 7) kc_12 (ws_1 w) (Nat.le_of_ble_eq_true rfl) tw_1749 d_X12_tick_84 rfl ?_
  refine aw_icmp_ge (tgt := 101) d_X12_tick_87 rfl (fun c9 => ?_) (fun c9 => ?_)
  · have k := k.1 c9
    refine aw_iinc (v := (x2 + 1)) [(0, .ref 1), (1, .int x1), (2, .int (x2 + 1)), (3, .int x3)] d_X12_tick_101 2 rfl rfl (Nat.le_of_ble_eq_true rfl) rfl rfl ?_
    refine aw_goto (tgt := 27) d_X12_tick_104 rfl ?_
    exact aw_lvp [0, 1, 2] [(0, .ref 1), (1, .int x1), (2, .int (x2 + 1))] rfl k
  · have k := k.2 c9
    refine aw_aload_n (i := 0) rfl d_X12_tick_90 0 rfl ?_
    refine aw_iload_n (i := 3) rfl d_X12_tick_91 3 rfl ?_
    refine aw_Vv 1 [.int x3] [] d_X12_tick_92 (cV_X12_wake (d + 9) 0 0) kc_12 (ws_1 w) tw_2388 rfl (rr0 (Nat.le_of_ble_eq_true rfl) (Nat.le_of_ble_eq_true rfl)) (Nat.le_of_ble_eq_true rfl) xs0 k (fun h10 kk => ?_)
    obtain ⟨w11, k⟩ := kk
    refine aw_iinc (v := (x3 + 1)) [(0, .ref 1), (1, .int x1), (2, .int x2), (3, .int (x3 + 1))] d_X12_tick_95 3 rfl rfl (Nat.le_of_ble_eq_true rfl) rfl rfl ?_
    refine aw_goto (tgt := 82) d_X12_tick_98 rfl ?_
    exact k
theorem t_X8_signs (d : Nat) (h : Hp_) (x0 : Int32) (K : Int32 → Hp_ → Prop) (k : AW (m_X8_signs (d + 0) 0 0) 0 0 5 [(0, .int x0), (1, .int 0), (2, .int 24)] [] h (kI K)) : Ci (m_X8_signs (d + 0) 0 0) [.int x0] h K := by
  refine Ct.of (fun _ _ _ => trivial) rfl (Nat.le_of_ble_eq_true rfl) ?_
  show AW (m_X8_signs (d + 0) 0 0) 0 0 0 [(0, .int x0)] [] h (kI K)
  refine aw_iconst (v := 0) d_X8_signs_0 ic_0 ?_
  refine aw_istore_n (i := 1) rfl [(0, .int x0), (1, .int 0)] d_X8_signs_1 (Nat.le_of_ble_eq_true rfl) rfl rfl ?_
  refine aw_bipush (v := 24) d_X8_signs_2 ib_24 ?_
  refine aw_istore_n (i := 2) rfl [(0, .int x0), (1, .int 0), (2, .int 24)] d_X8_signs_4 (Nat.le_of_ble_eq_true rfl) rfl rfl ?_
  exact k
theorem t_X8_signs_5 (d : Nat) (h : Hp_) (x0 : Int32) (x1 : Int32) (x2 : Int32) (K : Int32 → Hp_ → Prop) (k : (x2 < 0 → K x1 h) ∧ (¬ x2 < 0 → (((x0 >>> (x2 &&& 31)) &&& 255) = 0 → AW (m_X8_signs (d + 0) 0 0) 0 0 5 [(0, .int x0), (1, .int x1), (2, .int (x2 + (-8)))] [] h (kI K)) ∧ (¬ ((x0 >>> (x2 &&& 31)) &&& 255) = 0 → AW (m_X8_signs (d + 0) 0 0) 0 0 5 [(0, .int x0), (1, .int (x1 + 1)), (2, .int (x2 + (-8)))] [] h (kI K)))) : AW (m_X8_signs (d + 0) 0 0) 0 0 5 [(0, .int x0), (1, .int x1), (2, .int x2)] [] h (kI K) := by
  refine aw_iload_n (i := 2) rfl d_X8_signs_5 2 rfl ?_
  refine aw_if_lt (tgt := 28) d_X8_signs_6 rfl (fun c1 => ?_) (fun c1 => ?_)
  · have k := k.1 c1
    refine aw_iload_n (i := 1) rfl d_X8_signs_28 1 rfl ?_
    exact aw_iret rfl d_X8_signs_29 ⟨Nat.le_refl _, Nat.le_refl _⟩ ⟨_, rfl, k⟩
  · have k := k.2 c1
    refine aw_iload_n (i := 0) rfl d_X8_signs_9 0 rfl ?_
    refine aw_iload_n (i := 2) rfl d_X8_signs_10 2 rfl ?_
    refine aw_ishr d_X8_signs_11 ?_
    refine aw_sipush (v := 255) d_X8_signs_12 is_255 ?_
    refine aw_iand d_X8_signs_15 ?_
    refine aw_if_eq (tgt := 22) d_X8_signs_16 rfl (fun c2 => ?_) (fun c2 => ?_)
    · have k := k.1 c2
      refine aw_iinc (v := (x2 + (-8))) [(0, .int x0), (1, .int x1), (2, .int (x2 + (-8)))] d_X8_signs_22 2 rfl rfl (Nat.le_of_ble_eq_true rfl) rfl rfl ?_
      refine aw_goto (tgt := 5) d_X8_signs_25 rfl ?_
      exact k
    · have k := k.2 c2
      refine aw_iinc (v := (x1 + 1)) [(0, .int x0), (1, .int (x1 + 1)), (2, .int x2)] d_X8_signs_19 1 rfl rfl (Nat.le_of_ble_eq_true rfl) rfl rfl ?_
      refine aw_iinc (v := (x2 + (-8))) [(0, .int x0), (1, .int (x1 + 1)), (2, .int (x2 + (-8)))] d_X8_signs_22 2 rfl rfl (Nat.le_of_ble_eq_true rfl) rfl rfl ?_
      refine aw_goto (tgt := 5) d_X8_signs_25 rfl ?_
      exact k
theorem t_X8_append (d : Nat) (h : Hp_) (x1 : Int32) (K : Hp_ → Prop) (k : AW (m_X8_append (d + 0) 0 0) 0 0 3 [(0, .ref 11), (1, .int x1), (2, .int 24)] [] h (kV K)) : Cv (m_X8_append (d + 0) 0 0) [.ref 11, .int x1] h K := by
  refine Ct.of (fun _ _ _ => trivial) rfl (Nat.le_of_ble_eq_true rfl) ?_
  show AW (m_X8_append (d + 0) 0 0) 0 0 0 [(0, .ref 11), (1, .int x1)] [] h (kV K)
  refine aw_bipush (v := 24) d_X8_append_0 ib_24 ?_
  refine aw_istore_n (i := 2) rfl [(0, .ref 11), (1, .int x1), (2, .int 24)] d_X8_append_2 (Nat.le_of_ble_eq_true rfl) rfl rfl ?_
  exact k
theorem t_X8_append_3 (d : Nat) (h : Hp_) (w : Wf h) (x1 : Int32) (x2 : Int32) (K : Hp_ → Prop) (k : (x2 < 0 → K h) ∧ (¬ x2 < 0 → (((x1 >>> (x2 &&& 31)) &&& 255) = 0 → AW (m_X8_append (d + 0) 0 0) 0 0 3 [(0, .ref 11), (1, .int x1), (2, .int (x2 + (-8)))] [] h (kV K)) ∧ (¬ ((x1 >>> (x2 &&& 31)) &&& 255) = 0 → (160 ≤ (h_i h 11 1) → AW (m_X8_append (d + 0) 0 0) 0 0 3 [(0, .ref 11), (1, .int x1), (2, .int (x2 + (-8)))] [] h (kV K)) ∧ (¬ 160 ≤ (h_i h 11 1) → vp_in (h_i h 11 1) 160 ∧ (AW (m_X8_append (d + 0) 0 0) 0 0 3 [(0, .ref 11), (1, .int x1), (2, .int (x2 + (-8)))] [] (h_im (h_im h 31 ((h_i h 11 1) : Int32).toNatClampNeg ((x1 >>> (x2 &&& 31)) &&& 255)) 11 1 ((h_i h 11 1) + 1)) (kV K)))))) : AW (m_X8_append (d + 0) 0 0) 0 0 3 [(0, .ref 11), (1, .int x1), (2, .int x2)] [] h (kV K) := by
  refine aw_iload_n (i := 2) rfl d_X8_append_3 2 rfl ?_
  refine aw_if_lt (tgt := 55) d_X8_append_4 rfl (fun c1 => ?_) (fun c1 => ?_)
  · have k := k.1 c1
    exact aw_vret rfl d_X8_append_55 ⟨Nat.le_refl _, Nat.le_refl _⟩ ⟨rfl, k⟩
  · have k := k.2 c1
    refine aw_iload_n (i := 1) rfl d_X8_append_7 1 rfl ?_
    refine aw_iload_n (i := 2) rfl d_X8_append_8 2 rfl ?_
    refine aw_ishr d_X8_append_9 ?_
    refine aw_sipush (v := 255) d_X8_append_10 is_255 ?_
    refine aw_iand d_X8_append_13 ?_
    refine aw_istore_n (i := 3) rfl [(0, .ref 11), (1, .int x1), (2, .int x2), (3, .int ((x1 >>> (x2 &&& 31)) &&& 255))] d_X8_append_14 (Nat.le_of_ble_eq_true rfl) rfl rfl ?_
    refine aw_iload_n (i := 3) rfl d_X8_append_15 3 rfl ?_
    refine aw_if_eq (tgt := 49) d_X8_append_16 rfl (fun c2 => ?_) (fun c2 => ?_)
    · have k := k.1 c2
      refine aw_iinc (v := (x2 + (-8))) [(0, .ref 11), (1, .int x1), (2, .int (x2 + (-8))), (3, .int ((x1 >>> (x2 &&& 31)) &&& 255))] d_X8_append_49 2 rfl rfl (Nat.le_of_ble_eq_true rfl) rfl rfl ?_
      refine aw_goto (tgt := 3) d_X8_append_52 rfl ?_
      exact aw_lvp [0, 1, 2] [(0, .ref 11), (1, .int x1), (2, .int (x2 + (-8)))] rfl k
    · have k := k.2 c2
      refine aw_aload_n (i := 0) rfl d_X8_append_19 0 rfl ?_
      refine aw_geti (k0 := 1) kc_8 (ws_11 w) (Nat.le_of_ble_eq_true rfl) tw_60 d_X8_append_20 rfl ?_
      refine aw_sipush (v := 160) d_X8_append_23 is_160 ?_
      refine aw_icmp_ge (tgt := 49) d_X8_append_26 rfl (fun c3 => ?_) (fun c3 => ?_)
      · have k := k.1 c3
        refine aw_iinc (v := (x2 + (-8))) [(0, .ref 11), (1, .int x1), (2, .int (x2 + (-8))), (3, .int ((x1 >>> (x2 &&& 31)) &&& 255))] d_X8_append_49 2 rfl rfl (Nat.le_of_ble_eq_true rfl) rfl rfl ?_
        refine aw_goto (tgt := 3) d_X8_append_52 rfl ?_
        exact aw_lvp [0, 1, 2] [(0, .ref 11), (1, .int x1), (2, .int (x2 + (-8)))] rfl k
      · have k := k.2 c3
        refine aw_aload_n (i := 0) rfl d_X8_append_29 0 rfl ?_
        refine aw_getr (k0 := 0) kc_8 (ws_11 w) (Nat.le_of_ble_eq_true rfl) tw_59 d_X8_append_30 rfl (wr_11_0 w) ?_
        refine aw_aload_n (i := 0) rfl d_X8_append_33 0 rfl ?_
        refine aw_geti (k0 := 1) kc_8 (ws_11 w) (Nat.le_of_ble_eq_true rfl) tw_60 d_X8_append_34 rfl ?_
        refine aw_iload_n (i := 3) rfl d_X8_append_37 3 rfl ?_
        obtain ⟨b4, k⟩ := k
        refine aw_iast (ws_31 w) b4 d_X8_append_38 ?_
        refine aw_aload_n (i := 0) rfl d_X8_append_39 0 rfl ?_
        refine aw_dup d_X8_append_40 rfl ?_
        refine aw_geti (k0 := 1) kc_8 (ws_11 w) (Nat.le_of_ble_eq_true rfl) tw_60 d_X8_append_41 rfl ?_
        refine aw_vi (v2 := (h_i h 11 1)) (rfl) ?_
        refine aw_iconst (v := 1) d_X8_append_44 ic_1 ?_
        refine aw_iadd d_X8_append_45 ?_
        refine aw_puti (k0 := 1) kc_8 (ws_11 w) (Nat.le_of_ble_eq_true rfl) tw_60 d_X8_append_46 rfl rfl nf_i ?_
        refine aw_iinc (v := (x2 + (-8))) [(0, .ref 11), (1, .int x1), (2, .int (x2 + (-8))), (3, .int ((x1 >>> (x2 &&& 31)) &&& 255))] d_X8_append_49 2 rfl rfl (Nat.le_of_ble_eq_true rfl) rfl rfl ?_
        refine aw_goto (tgt := 3) d_X8_append_52 rfl ?_
        exact aw_lvp [0, 1, 2] [(0, .ref 11), (1, .int x1), (2, .int (x2 + (-8)))] rfl k
theorem t_X11_putAt (d : Nat) (h : Hp_) (w : Wf h) (x1 : Nat) (hs_x1 : h_sh h x1 = some (12, 17)) (lb_x1 : 400 ≤ x1) (x2 : Int32) (K : Hp_ → Prop) (k : (¬ x2 = (-1) → K (h_lm (h_im h x1 5 x2) 0 14 (((h_l h 0 14) &&& (((31 : Int64) <<< (((5 * (h_i h x1 0)) : Int32).toInt64 &&& 63)) ^^^ (-1 : Int64))) ||| ((((x2 + 1) : Int32).toInt64) <<< (((5 * (h_i h x1 0)) : Int32).toInt64 &&& 63))))) ∧ (x2 = (-1) → K (h_lm (h_im h x1 5 x2) 0 14 (((h_l h 0 14) &&& (((31 : Int64) <<< (((5 * (h_i h x1 0)) : Int32).toInt64 &&& 63)) ^^^ (-1 : Int64))) ||| ((17 : Int64) <<< (((5 * (h_i h x1 0)) : Int32).toInt64 &&& 63)))))) : Cv (m_X11_putAt (d + 0) 0 0) [.ref 0, .ref x1, .int x2] h K := by
  refine Ct.of (fun _ _ _ => trivial) rfl (Nat.le_of_ble_eq_true rfl) ?_
  show AW (m_X11_putAt (d + 0) 0 0) 0 0 0 [(0, .ref 0), (1, .ref x1), (2, .int x2)] [] h (kV K)
  refine aw_aload_n (i := 1) rfl d_X11_putAt_0 1 rfl ?_
  refine aw_iload_n (i := 2) rfl d_X11_putAt_1 2 rfl ?_
  refine aw_puti (k0 := 5) kc_2 (hs_x1) (Nat.le_of_ble_eq_true rfl) tw_583 d_X11_putAt_2 rfl rfl nf_i ?_
  refine aw_iconst (v := 5) d_X11_putAt_5 ic_5 ?_
  refine aw_aload_n (i := 1) rfl d_X11_putAt_6 1 rfl ?_
  refine aw_geti (k0 := 0) kc_2 (hs_x1) (Nat.le_of_ble_eq_true rfl) tw_573 d_X11_putAt_7 rfl ?_
  refine aw_vi (v2 := (h_i h x1 0)) ((hi_o h x1 5 x2 0 (by decide)).trans (rfl)) ?_
  refine aw_imul d_X11_putAt_10 ?_
  refine aw_istore_n (i := 3) rfl [(0, .ref 0), (1, .ref x1), (2, .int x2), (3, .int (5 * (h_i h x1 0)))] d_X11_putAt_11 (Nat.le_of_ble_eq_true rfl) rfl rfl ?_
  refine aw_iload_n (i := 2) rfl d_X11_putAt_12 2 rfl ?_
  refine aw_iconst (v := (-1)) d_X11_putAt_13 ic_m1 ?_
  refine aw_icmp_ne (tgt := 23) d_X11_putAt_14 rfl (fun c1 => ?_) (fun c1 => ?_)
  · have k := k.1 c1
    refine aw_iload_n (i := 2) rfl d_X11_putAt_23 2 rfl ?_
    refine aw_iconst (v := 1) d_X11_putAt_24 ic_1 ?_
    refine aw_iadd d_X11_putAt_25 ?_
    refine aw_i2l d_X11_putAt_26 ?_
    refine aw_lstore [(0, .ref 0), (1, .ref x1), (2, .int x2), (3, .int (5 * (h_i h x1 0))), (4, .long (((x2 + 1) : Int32).toInt64))] d_X11_putAt_27 (Nat.le_of_ble_eq_true rfl) rfl rfl ?_
    refine aw_aload_n (i := 0) rfl d_X11_putAt_29 0 rfl ?_
    refine aw_aload_n (i := 0) rfl d_X11_putAt_30 0 rfl ?_
    refine aw_getl (k0 := 14) kc_11 (ws_0 w) (Nat.le_of_ble_eq_true rfl) tw_501 d_X11_putAt_31 rfl ?_
    refine aw_vl (v2 := (h_l h 0 14)) (rfl) ?_
    refine aw_ldc2 (v := 31) d_X11_putAt_34 tw_639 ?_
    refine aw_iload_n (i := 3) rfl d_X11_putAt_37 3 rfl ?_
    refine aw_lshl d_X11_putAt_38 ?_
    refine aw_ldc2 (v := (-1)) d_X11_putAt_39 tw_640 ?_
    refine aw_lxor d_X11_putAt_42 ?_
    refine aw_land d_X11_putAt_43 ?_
    refine aw_lload d_X11_putAt_44 4 rfl ?_
    refine aw_iload_n (i := 3) rfl d_X11_putAt_46 3 rfl ?_
    refine aw_lshl d_X11_putAt_47 ?_
    refine aw_lor d_X11_putAt_48 ?_
    refine aw_putl (k0 := 14) kc_11 (ws_0 w) (Nat.le_of_ble_eq_true rfl) tw_501 d_X11_putAt_49 rfl rfl ?_
    exact aw_vret rfl d_X11_putAt_52 ⟨Nat.le_refl _, Nat.le_refl _⟩ ⟨rfl, k⟩
  · have k := k.2 c1
    refine aw_ldc2 (v := 17) d_X11_putAt_17 tw_638 ?_
    refine aw_goto (tgt := 27) d_X11_putAt_20 rfl ?_
    refine aw_lstore [(0, .ref 0), (1, .ref x1), (2, .int x2), (3, .int (5 * (h_i h x1 0))), (4, .long (17 : Int64))] d_X11_putAt_27 (Nat.le_of_ble_eq_true rfl) rfl rfl ?_
    refine aw_aload_n (i := 0) rfl d_X11_putAt_29 0 rfl ?_
    refine aw_aload_n (i := 0) rfl d_X11_putAt_30 0 rfl ?_
    refine aw_getl (k0 := 14) kc_11 (ws_0 w) (Nat.le_of_ble_eq_true rfl) tw_501 d_X11_putAt_31 rfl ?_
    refine aw_vl (v2 := (h_l h 0 14)) (rfl) ?_
    refine aw_ldc2 (v := 31) d_X11_putAt_34 tw_639 ?_
    refine aw_iload_n (i := 3) rfl d_X11_putAt_37 3 rfl ?_
    refine aw_lshl d_X11_putAt_38 ?_
    refine aw_ldc2 (v := (-1)) d_X11_putAt_39 tw_640 ?_
    refine aw_lxor d_X11_putAt_42 ?_
    refine aw_land d_X11_putAt_43 ?_
    refine aw_lload d_X11_putAt_44 4 rfl ?_
    refine aw_iload_n (i := 3) rfl d_X11_putAt_46 3 rfl ?_
    refine aw_lshl d_X11_putAt_47 ?_
    refine aw_lor d_X11_putAt_48 ?_
    refine aw_putl (k0 := 14) kc_11 (ws_0 w) (Nat.le_of_ble_eq_true rfl) tw_501 d_X11_putAt_49 rfl rfl ?_
    exact aw_vret rfl d_X11_putAt_52 ⟨Nat.le_refl _, Nat.le_refl _⟩ ⟨rfl, k⟩
theorem t_X8_takeIn (d : Nat) (h : Hp_) (x1 : Int32) (x2 : Int32) (x3 : Int32) (x4 : Int32) (x5 : Int32) (K : Int32 → Hp_ → Prop) (k : Ci (m_X8_signs (d + 0) 0 0) [.int x1] h (fun r3 h1 => Wf h1 ∧ (Ci (m_X8_signs (d + 0) 0 0) [.int x2] h1 (fun r6 h4 => Wf h4 ∧ (Ci (m_X8_signs (d + 0) 0 0) [.int x3] h4 (fun r9 h7 => Wf h7 ∧ (Ci (m_X8_signs (d + 0) 0 0) [.int x4] h7 (fun r12 h10 => Wf h10 ∧ (Ci (m_X8_signs (d + 0) 0 0) [.int x5] h10 (fun r15 h13 => Wf h13 ∧ ((((h_i h13 11 1) + ((((r3 + r6) + r9) + r12) + r15)) ≤ 160 → Cv (m_X8_append (d + 0) 0 0) [.ref 11, .int x1] h13 (fun h17 => Wf h17 ∧ (Cv (m_X8_append (d + 0) 0 0) [.ref 11, .int x2] h17 (fun h20 => Wf h20 ∧ (Cv (m_X8_append (d + 0) 0 0) [.ref 11, .int x3] h20 (fun h23 => Wf h23 ∧ (Cv (m_X8_append (d + 0) 0 0) [.ref 11, .int x4] h23 (fun h26 => Wf h26 ∧ (Cv (m_X8_append (d + 0) 0 0) [.ref 11, .int x5] h26 (fun h29 => Wf h29 ∧ (K (h_i h29 11 1) h29))))))))))) ∧ (¬ ((h_i h13 11 1) + ((((r3 + r6) + r9) + r12) + r15)) ≤ 160 → K (-1) h13)))))))))))) : Ci (m_X8_takeIn (d + 1) 0 0) [.ref 11, .int x1, .int x2, .int x3, .int x4, .int x5] h K := by
  refine Ct.of (fun _ _ _ => trivial) rfl (Nat.le_of_ble_eq_true rfl) ?_
  show AW (m_X8_takeIn (d + 1) 0 0) 0 0 0 [(0, .ref 11), (1, .int x1), (2, .int x2), (3, .int x3), (4, .int x4), (5, .int x5)] [] h (kI K)
  refine aw_iload_n (i := 1) rfl d_X8_takeIn_0 1 rfl ?_
  refine aw_Si [.int x1] [] d_X8_takeIn_1 (cS_X8_signs (d + 0) 0 0) tw_649 rfl (rr0 (Nat.le_of_ble_eq_true rfl) (Nat.le_of_ble_eq_true rfl)) (Nat.le_of_ble_eq_true rfl) xs0 k (fun r3 h1 kk => ?_)
  obtain ⟨w2, k⟩ := kk
  refine aw_iload_n (i := 2) rfl d_X8_takeIn_4 2 rfl ?_
  refine aw_Si [.int x2] [.int r3] d_X8_takeIn_5 (cS_X8_signs (d + 0) 0 0) tw_649 rfl (rr0 (Nat.le_of_ble_eq_true rfl) (Nat.le_of_ble_eq_true rfl)) (Nat.le_of_ble_eq_true rfl) xs0 k (fun r6 h4 kk => ?_)
  obtain ⟨w5, k⟩ := kk
  refine aw_iadd d_X8_takeIn_8 ?_
  refine aw_iload_n (i := 3) rfl d_X8_takeIn_9 3 rfl ?_
  refine aw_Si [.int x3] [.int (r3 + r6)] d_X8_takeIn_10 (cS_X8_signs (d + 0) 0 0) tw_649 rfl (rr0 (Nat.le_of_ble_eq_true rfl) (Nat.le_of_ble_eq_true rfl)) (Nat.le_of_ble_eq_true rfl) xs0 k (fun r9 h7 kk => ?_)
  obtain ⟨w8, k⟩ := kk
  refine aw_iadd d_X8_takeIn_13 ?_
  refine aw_iload d_X8_takeIn_14 4 rfl ?_
  refine aw_Si [.int x4] [.int ((r3 + r6) + r9)] d_X8_takeIn_16 (cS_X8_signs (d + 0) 0 0) tw_649 rfl (rr0 (Nat.le_of_ble_eq_true rfl) (Nat.le_of_ble_eq_true rfl)) (Nat.le_of_ble_eq_true rfl) xs0 k (fun r12 h10 kk => ?_)
  obtain ⟨w11, k⟩ := kk
  refine aw_iadd d_X8_takeIn_19 ?_
  refine aw_iload d_X8_takeIn_20 5 rfl ?_
  refine aw_Si [.int x5] [.int (((r3 + r6) + r9) + r12)] d_X8_takeIn_22 (cS_X8_signs (d + 0) 0 0) tw_649 rfl (rr0 (Nat.le_of_ble_eq_true rfl) (Nat.le_of_ble_eq_true rfl)) (Nat.le_of_ble_eq_true rfl) xs0 k (fun r15 h13 kk => ?_)
  obtain ⟨w14, k⟩ := kk
  refine aw_iadd d_X8_takeIn_25 ?_
  refine aw_istore [(0, .ref 11), (1, .int x1), (2, .int x2), (3, .int x3), (4, .int x4), (5, .int x5), (6, .int ((((r3 + r6) + r9) + r12) + r15))] d_X8_takeIn_26 (Nat.le_of_ble_eq_true rfl) rfl rfl ?_
  refine aw_aload_n (i := 0) rfl d_X8_takeIn_28 0 rfl ?_
  refine aw_geti (k0 := 1) kc_8 (ws_11 w14) (Nat.le_of_ble_eq_true rfl) tw_60 d_X8_takeIn_29 rfl ?_
  refine aw_iload d_X8_takeIn_32 6 rfl ?_
  refine aw_iadd d_X8_takeIn_34 ?_
  refine aw_sipush (v := 160) d_X8_takeIn_35 is_160 ?_
  refine aw_icmp_le (tgt := 43) d_X8_takeIn_38 rfl (fun c16 => ?_) (fun c16 => ?_)
  · have k := k.1 c16
    refine aw_aload_n (i := 0) rfl d_X8_takeIn_43 0 rfl ?_
    refine aw_iload_n (i := 1) rfl d_X8_takeIn_44 1 rfl ?_
    refine aw_Vv 11 [.int x1] [] d_X8_takeIn_45 (cV_X8_append (d + 0) 0 0) kc_8 (ws_11 w14) tw_652 rfl (rr0 (Nat.le_of_ble_eq_true rfl) (Nat.le_of_ble_eq_true rfl)) (Nat.le_of_ble_eq_true rfl) xs0 k (fun h17 kk => ?_)
    obtain ⟨w18, k⟩ := kk
    refine aw_aload_n (i := 0) rfl d_X8_takeIn_48 0 rfl ?_
    refine aw_iload_n (i := 2) rfl d_X8_takeIn_49 2 rfl ?_
    refine aw_Vv 11 [.int x2] [] d_X8_takeIn_50 (cV_X8_append (d + 0) 0 0) kc_8 (ws_11 w18) tw_652 rfl (rr0 (Nat.le_of_ble_eq_true rfl) (Nat.le_of_ble_eq_true rfl)) (Nat.le_of_ble_eq_true rfl) xs0 k (fun h20 kk => ?_)
    obtain ⟨w21, k⟩ := kk
    refine aw_aload_n (i := 0) rfl d_X8_takeIn_53 0 rfl ?_
    refine aw_iload_n (i := 3) rfl d_X8_takeIn_54 3 rfl ?_
    refine aw_Vv 11 [.int x3] [] d_X8_takeIn_55 (cV_X8_append (d + 0) 0 0) kc_8 (ws_11 w21) tw_652 rfl (rr0 (Nat.le_of_ble_eq_true rfl) (Nat.le_of_ble_eq_true rfl)) (Nat.le_of_ble_eq_true rfl) xs0 k (fun h23 kk => ?_)
    obtain ⟨w24, k⟩ := kk
    refine aw_aload_n (i := 0) rfl d_X8_takeIn_58 0 rfl ?_
    refine aw_iload d_X8_takeIn_59 4 rfl ?_
    refine aw_Vv 11 [.int x4] [] d_X8_takeIn_61 (cV_X8_append (d + 0) 0 0) kc_8 (ws_11 w24) tw_652 rfl (rr0 (Nat.le_of_ble_eq_true rfl) (Nat.le_of_ble_eq_true rfl)) (Nat.le_of_ble_eq_true rfl) xs0 k (fun h26 kk => ?_)
    obtain ⟨w27, k⟩ := kk
    refine aw_aload_n (i := 0) rfl d_X8_takeIn_64 0 rfl ?_
    refine aw_iload d_X8_takeIn_65 5 rfl ?_
    refine aw_Vv 11 [.int x5] [] d_X8_takeIn_67 (cV_X8_append (d + 0) 0 0) kc_8 (ws_11 w27) tw_652 rfl (rr0 (Nat.le_of_ble_eq_true rfl) (Nat.le_of_ble_eq_true rfl)) (Nat.le_of_ble_eq_true rfl) xs0 k (fun h29 kk => ?_)
    obtain ⟨w30, k⟩ := kk
    refine aw_aload_n (i := 0) rfl d_X8_takeIn_70 0 rfl ?_
    refine aw_geti (k0 := 1) kc_8 (ws_11 w30) (Nat.le_of_ble_eq_true rfl) tw_60 d_X8_takeIn_71 rfl ?_
    exact aw_iret rfl d_X8_takeIn_74 ⟨Nat.le_refl _, Nat.le_refl _⟩ ⟨_, rfl, k⟩
  · have k := k.2 c16
    refine aw_iconst (v := (-1)) d_X8_takeIn_41 ic_m1 ?_
    exact aw_iret rfl d_X8_takeIn_42 ⟨Nat.le_refl _, Nat.le_refl _⟩ ⟨_, rfl, k⟩
theorem t_X9_minutes (d : Nat) (h : Hp_) (w : Wf h) (x1 : Int32) (x2 : Int32) (K : Int32 → Hp_ → Prop) (k : (¬ (0 ≤ x1 ∧ x1 < 16) → K (-1) h) ∧ ((0 ≤ x1 ∧ x1 < 16) → ((0 ≤ x2 ∧ x2 < 16) → vp_in ((x1 * 16) + x2) 256 ∧ (((h_i h 30 (((x1 * 16) + x2) : Int32).toNatClampNeg) < 1000000 → K (h_i h 30 (((x1 * 16) + x2) : Int32).toNatClampNeg) h) ∧ (¬ (h_i h 30 (((x1 * 16) + x2) : Int32).toNatClampNeg) < 1000000 → K (-1) h))) ∧ (¬ (0 ≤ x2 ∧ x2 < 16) → K (-1) h))) : Ci (m_X9_minutes (d + 1) 0 0) [.ref 10, .int x1, .int x2] h K := by
  refine Ct.of (fun _ _ _ => trivial) rfl (Nat.le_of_ble_eq_true rfl) ?_
  show AW (m_X9_minutes (d + 1) 0 0) 0 0 0 [(0, .ref 10), (1, .int x1), (2, .int x2)] [] h (kI K)
  refine aw_iload_n (i := 1) rfl d_X9_minutes_0 1 rfl ?_
  refine aw_SNi [.int x1] [] d_X9_minutes_1 (cS_X11_isPlace (d + 0) 0 0) (List.mem_of_getElem? (i := 7) rfl) rfl (rr0 (Nat.le_of_ble_eq_true rfl) (Nat.le_of_ble_eq_true rfl)) (Nat.le_of_ble_eq_true rfl) xs0 (s_X11_isPlace _ _ x1) (fun _ _ kk => ?_)
  obtain ⟨e1, e2⟩ := kk
  rw [e1, e2]
  refine aw_ifb_eq (tgt := 14) d_X9_minutes_4 rfl (fun c3 => ?_) (fun c3 => ?_)
  · have k := k.1 c3
    refine aw_iconst (v := (-1)) d_X9_minutes_14 ic_m1 ?_
    exact aw_iret rfl d_X9_minutes_15 ⟨Nat.le_refl _, Nat.le_refl _⟩ ⟨_, rfl, k⟩
  · have k := k.2 c3
    refine aw_iload_n (i := 2) rfl d_X9_minutes_7 2 rfl ?_
    refine aw_SNi [.int x2] [] d_X9_minutes_8 (cS_X11_isPlace (d + 0) 0 0) (List.mem_of_getElem? (i := 7) rfl) rfl (rr0 (Nat.le_of_ble_eq_true rfl) (Nat.le_of_ble_eq_true rfl)) (Nat.le_of_ble_eq_true rfl) xs0 (s_X11_isPlace _ _ x2) (fun _ _ kk => ?_)
    obtain ⟨e4, e5⟩ := kk
    rw [e4, e5]
    refine aw_ifb_ne (tgt := 16) d_X9_minutes_11 rfl (fun c6 => ?_) (fun c6 => ?_)
    · have k := k.1 c6
      refine aw_aload_n (i := 0) rfl d_X9_minutes_16 0 rfl ?_
      refine aw_getr (k0 := 0) kc_9 (ws_10 w) (Nat.le_of_ble_eq_true rfl) tw_42 d_X9_minutes_17 rfl (wr_10_0 w) ?_
      refine aw_iload_n (i := 1) rfl d_X9_minutes_20 1 rfl ?_
      refine aw_bipush (v := 16) d_X9_minutes_21 ib_16 ?_
      refine aw_imul d_X9_minutes_23 ?_
      refine aw_iload_n (i := 2) rfl d_X9_minutes_24 2 rfl ?_
      refine aw_iadd d_X9_minutes_25 ?_
      obtain ⟨b7, k⟩ := k
      refine aw_iald (ws_30 w) b7 d_X9_minutes_26 ?_
      refine aw_istore_n (i := 3) rfl [(0, .ref 10), (1, .int x1), (2, .int x2), (3, .int (h_i h 30 (((x1 * 16) + x2) : Int32).toNatClampNeg))] d_X9_minutes_27 (Nat.le_of_ble_eq_true rfl) rfl rfl ?_
      refine aw_iload_n (i := 3) rfl d_X9_minutes_28 3 rfl ?_
      refine aw_ldc (v := 1000000) d_X9_minutes_29 tw_41 ?_
      refine aw_icmp_lt (tgt := 38) d_X9_minutes_31 rfl (fun c8 => ?_) (fun c8 => ?_)
      · have k := k.1 c8
        refine aw_iload_n (i := 3) rfl d_X9_minutes_38 3 rfl ?_
        exact aw_iret rfl d_X9_minutes_39 ⟨Nat.le_refl _, Nat.le_refl _⟩ ⟨_, rfl, k⟩
      · have k := k.2 c8
        refine aw_iconst (v := (-1)) d_X9_minutes_34 ic_m1 ?_
        refine aw_goto (tgt := 39) d_X9_minutes_35 rfl ?_
        exact aw_iret rfl d_X9_minutes_39 ⟨Nat.le_refl _, Nat.le_refl _⟩ ⟨_, rfl, k⟩
    · have k := k.2 c6
      refine aw_iconst (v := (-1)) d_X9_minutes_14 ic_m1 ?_
      exact aw_iret rfl d_X9_minutes_15 ⟨Nat.le_refl _, Nat.le_refl _⟩ ⟨_, rfl, k⟩
theorem t_X3_fillChoices (d : Nat) (h : Hp_)  (K : Hp_ → Prop) (k : AW (m_X3_fillChoices (d + 2) 0 0) 0 0 2 [(0, .ref 19), (1, .int 0)] [] h (kV K)) : Cv (m_X3_fillChoices (d + 2) 0 0) [.ref 19] h K := by
  refine Ct.of (fun _ _ _ => trivial) rfl (Nat.le_of_ble_eq_true rfl) ?_
  show AW (m_X3_fillChoices (d + 2) 0 0) 0 0 0 [(0, .ref 19)] [] h (kV K)
  refine aw_iconst (v := 0) d_X3_fillChoices_0 ic_0 ?_
  refine aw_istore_n (i := 1) rfl [(0, .ref 19), (1, .int 0)] d_X3_fillChoices_1 (Nat.le_of_ble_eq_true rfl) rfl rfl ?_
  exact k
theorem t_X3_fillChoices_2 (d : Nat) (h : Hp_) (w : Wf h) (x1 : Int32) (K : Hp_ → Prop) (k : (2304 ≤ x1 → Cv (m_J7_fill_53178 (d + 0) 0 0) [.ref 90, .int 0] h (fun h2 => Wf h2 ∧ (vp_in 0 2304 ∧ (AW (m_X3_fillChoices (d + 2) 0 0) 0 0 48 [(0, .ref 19), (1, .int ((1 : Int32) <<< ((h_i h2 19 3) &&& 31))), (2, .int 0)] [] (h_im h2 89 (0 : Int32).toNatClampNeg (vp_nar .boolean 1)) (kV K))))) ∧ (¬ 2304 ≤ x1 → vp_in x1 2304 ∧ (AW (m_X3_fillChoices (d + 2) 0 0) 0 0 2 [(0, .ref 19), (1, .int (x1 + 1))] [] (h_im h 89 x1.toNatClampNeg (vp_nar .boolean 0)) (kV K)))) : AW (m_X3_fillChoices (d + 2) 0 0) 0 0 2 [(0, .ref 19), (1, .int x1)] [] h (kV K) := by
  refine aw_iload_n (i := 1) rfl d_X3_fillChoices_2 1 rfl ?_
  refine aw_aload_n (i := 0) rfl d_X3_fillChoices_3 0 rfl ?_
  refine aw_getr (k0 := 8) kc_3 (ws_19 w) (Nat.le_of_ble_eq_true rfl) tw_331 d_X3_fillChoices_4 rfl (wr_19_8 w) ?_
  refine aw_alen (v := 2304) (ws_89 w) (Nat.le_of_ble_eq_true rfl) rfl d_X3_fillChoices_7 ?_
  refine aw_icmp_ge (tgt := 24) d_X3_fillChoices_8 rfl (fun c1 => ?_) (fun c1 => ?_)
  · have k := k.1 c1
    refine aw_aload_n (i := 0) rfl d_X3_fillChoices_24 0 rfl ?_
    refine aw_getr (k0 := 9) kc_3 (ws_19 w) (Nat.le_of_ble_eq_true rfl) tw_332 d_X3_fillChoices_25 rfl (wr_19_9 w) ?_
    refine aw_iconst (v := 0) d_X3_fillChoices_28 ic_0 ?_
    refine aw_Sv [.ref 90, .int 0] [] d_X3_fillChoices_29 (cS_J7_fill_53178 (d + 0) 0 0) tw_1354 rfl (rr0 (Nat.le_of_ble_eq_true rfl) (Nat.le_of_ble_eq_true rfl)) (Nat.le_of_ble_eq_true rfl) xs0 k (fun h2 kk => ?_)
    obtain ⟨w3, k⟩ := kk
    refine aw_aload_n (i := 0) rfl d_X3_fillChoices_32 0 rfl ?_
    refine aw_getr (k0 := 8) kc_3 (ws_19 w3) (Nat.le_of_ble_eq_true rfl) tw_331 d_X3_fillChoices_33 rfl (wr_19_8 w3) ?_
    refine aw_iconst (v := 0) d_X3_fillChoices_36 ic_0 ?_
    refine aw_iconst (v := 1) d_X3_fillChoices_37 ic_1 ?_
    obtain ⟨b5, k⟩ := k
    refine aw_zast (ws_89 w3) b5 d_X3_fillChoices_38 ?_
    refine aw_iconst (v := 1) d_X3_fillChoices_39 ic_1 ?_
    refine aw_aload_n (i := 0) rfl d_X3_fillChoices_40 0 rfl ?_
    refine aw_geti (k0 := 3) kc_3 (ws_19 w3) (Nat.le_of_ble_eq_true rfl) tw_325 d_X3_fillChoices_41 rfl ?_
    refine aw_vi (v2 := (h_i h2 19 3)) (rfl) ?_
    refine aw_ishl d_X3_fillChoices_44 ?_
    refine aw_istore_n (i := 1) rfl [(0, .ref 19), (1, .int ((1 : Int32) <<< ((h_i h2 19 3) &&& 31)))] d_X3_fillChoices_45 (Nat.le_of_ble_eq_true rfl) rfl rfl ?_
    refine aw_iconst (v := 0) d_X3_fillChoices_46 ic_0 ?_
    refine aw_istore_n (i := 2) rfl [(0, .ref 19), (1, .int ((1 : Int32) <<< ((h_i h2 19 3) &&& 31))), (2, .int 0)] d_X3_fillChoices_47 (Nat.le_of_ble_eq_true rfl) rfl rfl ?_
    exact k
  · have k := k.2 c1
    refine aw_aload_n (i := 0) rfl d_X3_fillChoices_11 0 rfl ?_
    refine aw_getr (k0 := 8) kc_3 (ws_19 w) (Nat.le_of_ble_eq_true rfl) tw_331 d_X3_fillChoices_12 rfl (wr_19_8 w) ?_
    refine aw_iload_n (i := 1) rfl d_X3_fillChoices_15 1 rfl ?_
    refine aw_iconst (v := 0) d_X3_fillChoices_16 ic_0 ?_
    obtain ⟨b6, k⟩ := k
    refine aw_zast (ws_89 w) b6 d_X3_fillChoices_17 ?_
    refine aw_iinc (v := (x1 + 1)) [(0, .ref 19), (1, .int (x1 + 1))] d_X3_fillChoices_18 1 rfl rfl (Nat.le_of_ble_eq_true rfl) rfl rfl ?_
    refine aw_goto (tgt := 2) d_X3_fillChoices_21 rfl ?_
    exact k
theorem t_X3_fillChoices_48 (d : Nat) (h : Hp_) (w : Wf h) (x1 : Int32) (x2 : Int32) (K : Hp_ → Prop) (k : ((h_i h 19 2) ≤ x2 → K h) ∧ (¬ (h_i h 19 2) ≤ x2 → AW (m_X3_fillChoices (d + 2) 0 0) 0 0 58 [(0, .ref 19), (1, .int x1), (2, .int x2), (3, .int 0)] [] h (kV K))) : AW (m_X3_fillChoices (d + 2) 0 0) 0 0 48 [(0, .ref 19), (1, .int x1), (2, .int x2)] [] h (kV K) := by
  refine aw_iload_n (i := 2) rfl d_X3_fillChoices_48 2 rfl ?_
  refine aw_aload_n (i := 0) rfl d_X3_fillChoices_49 0 rfl ?_
  refine aw_geti (k0 := 2) kc_3 (ws_19 w) (Nat.le_of_ble_eq_true rfl) tw_323 d_X3_fillChoices_50 rfl ?_
  refine aw_icmp_ge (tgt := 96) d_X3_fillChoices_53 rfl (fun c7 => ?_) (fun c7 => ?_)
  · have k := k.1 c7
    exact aw_vret rfl d_X3_fillChoices_96 ⟨Nat.le_refl _, Nat.le_refl _⟩ ⟨rfl, k⟩
  · have k := k.2 c7
    refine aw_iconst (v := 0) d_X3_fillChoices_56 ic_0 ?_
    refine aw_istore_n (i := 3) rfl [(0, .ref 19), (1, .int x1), (2, .int x2), (3, .int 0)] d_X3_fillChoices_57 (Nat.le_of_ble_eq_true rfl) rfl rfl ?_
    exact k
theorem t_X3_fillChoices_58 (d : Nat) (h : Hp_) (w : Wf h) (x1 : Int32) (x2 : Int32) (x3 : Int32) (K : Hp_ → Prop) (k : (x1 ≤ x3 → AW (m_X3_fillChoices (d + 2) 0 0) 0 0 48 [(0, .ref 19), (1, .int x1), (2, .int (x2 + 1))] [] h (kV K)) ∧ (¬ x1 ≤ x3 → vp_in ((x2 * 256) + x3) 2304 ∧ (((h_i h 89 (((x2 * 256) + x3) : Int32).toNatClampNeg) = 0 → AW (m_X3_fillChoices (d + 2) 0 0) 0 0 58 [(0, .ref 19), (1, .int x1), (2, .int x2), (3, .int (x3 + 1))] [] h (kV K)) ∧ (¬ (h_i h 89 (((x2 * 256) + x3) : Int32).toNatClampNeg) = 0 → Cv (m_X3_spreadFrom (d + 1) 0 0) [.ref 19, .int x2, .int x3] h (fun h11 => Wf h11 ∧ (AW (m_X3_fillChoices (d + 2) 0 0) 0 0 58 [(0, .ref 19), (1, .int x1), (2, .int x2), (3, .int (x3 + 1))] [] h11 (kV K))))))) : AW (m_X3_fillChoices (d + 2) 0 0) 0 0 58 [(0, .ref 19), (1, .int x1), (2, .int x2), (3, .int x3)] [] h (kV K) := by
  refine aw_iload_n (i := 3) rfl d_X3_fillChoices_58 3 rfl ?_
  refine aw_iload_n (i := 1) rfl d_X3_fillChoices_59 1 rfl ?_
  refine aw_icmp_ge (tgt := 90) d_X3_fillChoices_60 rfl (fun c8 => ?_) (fun c8 => ?_)
  · have k := k.1 c8
    refine aw_iinc (v := (x2 + 1)) [(0, .ref 19), (1, .int x1), (2, .int (x2 + 1)), (3, .int x3)] d_X3_fillChoices_90 2 rfl rfl (Nat.le_of_ble_eq_true rfl) rfl rfl ?_
    refine aw_goto (tgt := 48) d_X3_fillChoices_93 rfl ?_
    exact aw_lvp [0, 1, 2] [(0, .ref 19), (1, .int x1), (2, .int (x2 + 1))] rfl k
  · have k := k.2 c8
    refine aw_aload_n (i := 0) rfl d_X3_fillChoices_63 0 rfl ?_
    refine aw_getr (k0 := 8) kc_3 (ws_19 w) (Nat.le_of_ble_eq_true rfl) tw_331 d_X3_fillChoices_64 rfl (wr_19_8 w) ?_
    refine aw_iload_n (i := 2) rfl d_X3_fillChoices_67 2 rfl ?_
    refine aw_sipush (v := 256) d_X3_fillChoices_68 is_256 ?_
    refine aw_imul d_X3_fillChoices_71 ?_
    refine aw_iload_n (i := 3) rfl d_X3_fillChoices_72 3 rfl ?_
    refine aw_iadd d_X3_fillChoices_73 ?_
    obtain ⟨b9, k⟩ := k
    refine aw_zald (ws_89 w) b9 d_X3_fillChoices_74 ?_
    refine aw_if_eq (tgt := 84) d_X3_fillChoices_75 rfl (fun c10 => ?_) (fun c10 => ?_)
    · have k := k.1 c10
      refine aw_iinc (v := (x3 + 1)) [(0, .ref 19), (1, .int x1), (2, .int x2), (3, .int (x3 + 1))] d_X3_fillChoices_84 3 rfl rfl (Nat.le_of_ble_eq_true rfl) rfl rfl ?_
      refine aw_goto (tgt := 58) d_X3_fillChoices_87 rfl ?_
      exact k
    · have k := k.2 c10
      refine aw_aload_n (i := 0) rfl d_X3_fillChoices_78 0 rfl ?_
      refine aw_iload_n (i := 2) rfl d_X3_fillChoices_79 2 rfl ?_
      refine aw_iload_n (i := 3) rfl d_X3_fillChoices_80 3 rfl ?_
      refine aw_Vv 19 [.int x2, .int x3] [] d_X3_fillChoices_81 (cV_X3_spreadFrom (d + 1) 0 0) kc_3 (ws_19 w) tw_1368 rfl (rr0 (Nat.le_of_ble_eq_true rfl) (Nat.le_of_ble_eq_true rfl)) (Nat.le_of_ble_eq_true rfl) xs0 k (fun h11 kk => ?_)
      obtain ⟨w12, k⟩ := kk
      refine aw_iinc (v := (x3 + 1)) [(0, .ref 19), (1, .int x1), (2, .int x2), (3, .int (x3 + 1))] d_X3_fillChoices_84 3 rfl rfl (Nat.le_of_ble_eq_true rfl) rfl rfl ?_
      refine aw_goto (tgt := 58) d_X3_fillChoices_87 rfl ?_
      exact k
theorem t_X11_path (d : Nat) (h : Hp_) (w : Wf h) (x1 : Int32) (x2 : Int32) (x3 : Int32) (K : Int32 → Hp_ → Prop) (k : (¬ (0 ≤ x1 ∧ x1 < 16) → K (-1) h) ∧ ((0 ≤ x1 ∧ x1 < 16) → (¬ (0 ≤ x2 ∧ x2 < 16) → K (-1) h) ∧ ((0 ≤ x2 ∧ x2 < 16) → (x1 = x2 → K (-1) h) ∧ (¬ x1 = x2 → ((1 ≤ x3 ∧ x3 ≤ 60) → Ci (m_X9_lay (d + 1) 0 0) [.ref 10, .int x1, .int x2, .int x3] h (fun r13 h11 => Wf h11 ∧ (K r13 h11))) ∧ (¬ (1 ≤ x3 ∧ x3 ≤ 60) → K (-1) h))))) : Ci (m_X11_path (d + 2) 0 0) [.ref 0, .int x1, .int x2, .int x3] h K := by
  refine Ct.of (fun _ _ _ => trivial) rfl (Nat.le_of_ble_eq_true rfl) ?_
  show AW (m_X11_path (d + 2) 0 0) 0 0 0 [(0, .ref 0), (1, .int x1), (2, .int x2), (3, .int x3)] [] h (kI K)
  refine aw_iload_n (i := 1) rfl d_X11_path_0 1 rfl ?_
  refine aw_Si [.int x1] [] d_X11_path_1 (cS_X11_isPlace (d + 0) 0 0) tw_540 rfl (rr0 (Nat.le_of_ble_eq_true rfl) (Nat.le_of_ble_eq_true rfl)) (Nat.le_of_ble_eq_true rfl) xs0 (s_X11_isPlace _ _ x1) (fun _ _ kk => ?_)
  obtain ⟨e1, e2⟩ := kk
  rw [e1, e2]
  refine aw_ifb_eq (tgt := 29) d_X11_path_4 rfl (fun c3 => ?_) (fun c3 => ?_)
  · have k := k.1 c3
    refine aw_iconst (v := (-1)) d_X11_path_29 ic_m1 ?_
    exact aw_iret rfl d_X11_path_30 ⟨Nat.le_refl _, Nat.le_refl _⟩ ⟨_, rfl, k⟩
  · have k := k.2 c3
    refine aw_iload_n (i := 2) rfl d_X11_path_7 2 rfl ?_
    refine aw_Si [.int x2] [] d_X11_path_8 (cS_X11_isPlace (d + 0) 0 0) tw_540 rfl (rr0 (Nat.le_of_ble_eq_true rfl) (Nat.le_of_ble_eq_true rfl)) (Nat.le_of_ble_eq_true rfl) xs0 (s_X11_isPlace _ _ x2) (fun _ _ kk => ?_)
    obtain ⟨e4, e5⟩ := kk
    rw [e4, e5]
    refine aw_ifb_eq (tgt := 29) d_X11_path_11 rfl (fun c6 => ?_) (fun c6 => ?_)
    · have k := k.1 c6
      refine aw_iconst (v := (-1)) d_X11_path_29 ic_m1 ?_
      exact aw_iret rfl d_X11_path_30 ⟨Nat.le_refl _, Nat.le_refl _⟩ ⟨_, rfl, k⟩
    · have k := k.2 c6
      refine aw_iload_n (i := 1) rfl d_X11_path_14 1 rfl ?_
      refine aw_iload_n (i := 2) rfl d_X11_path_15 2 rfl ?_
      refine aw_icmp_eq (tgt := 29) d_X11_path_16 rfl (fun c7 => ?_) (fun c7 => ?_)
      · have k := k.1 c7
        refine aw_iconst (v := (-1)) d_X11_path_29 ic_m1 ?_
        exact aw_iret rfl d_X11_path_30 ⟨Nat.le_refl _, Nat.le_refl _⟩ ⟨_, rfl, k⟩
      · have k := k.2 c7
        refine aw_iload_n (i := 3) rfl d_X11_path_19 3 rfl ?_
        refine aw_iconst (v := 1) d_X11_path_20 ic_1 ?_
        refine aw_bipush (v := 60) d_X11_path_21 ib_60 ?_
        refine aw_Si [.int x3, .int 1, .int 60] [] d_X11_path_23 (cS_X11_within (d + 0) 0 0) tw_543 rfl (rr0 (Nat.le_of_ble_eq_true rfl) (Nat.le_of_ble_eq_true rfl)) (Nat.le_of_ble_eq_true rfl) xs0 (s_X11_within _ _ x3 1 60) (fun _ _ kk => ?_)
        obtain ⟨e8, e9⟩ := kk
        rw [e8, e9]
        refine aw_ifb_ne (tgt := 31) d_X11_path_26 rfl (fun c10 => ?_) (fun c10 => ?_)
        · have k := k.1 c10
          refine aw_aload_n (i := 0) rfl d_X11_path_31 0 rfl ?_
          refine aw_getr (k0 := 1) kc_11 (ws_0 w) (Nat.le_of_ble_eq_true rfl) tw_488 d_X11_path_32 rfl (wr_0_1 w) ?_
          refine aw_iload_n (i := 1) rfl d_X11_path_35 1 rfl ?_
          refine aw_iload_n (i := 2) rfl d_X11_path_36 2 rfl ?_
          refine aw_iload_n (i := 3) rfl d_X11_path_37 3 rfl ?_
          refine aw_Vi 10 [.int x1, .int x2, .int x3] [] d_X11_path_38 (cV_X9_lay (d + 1) 0 0) kc_9 (ws_10 w) tw_546 rfl (rr0 (Nat.le_of_ble_eq_true rfl) (Nat.le_of_ble_eq_true rfl)) (Nat.le_of_ble_eq_true rfl) xs0 k (fun r13 h11 kk => ?_)
          obtain ⟨w12, k⟩ := kk
          exact aw_iret rfl d_X11_path_41 ⟨Nat.le_refl _, Nat.le_refl _⟩ ⟨_, rfl, k⟩
        · have k := k.2 c10
          refine aw_iconst (v := (-1)) d_X11_path_29 ic_m1 ?_
          exact aw_iret rfl d_X11_path_30 ⟨Nat.le_refl _, Nat.le_refl _⟩ ⟨_, rfl, k⟩
theorem t_X11_walk (d : Nat) (h : Hp_) (w : Wf h) (x1 : Int32) (x2 : Int32) (K : Int32 → Hp_ → Prop) (k : (¬ (0 ≤ x1 ∧ x1 < 16) → K (-1) h) ∧ ((0 ≤ x1 ∧ x1 < 16) → (¬ (0 ≤ x2 ∧ x2 < 16) → K (-1) h) ∧ ((0 ≤ x2 ∧ x2 < 16) → Ci (m_X9_minutes (d + 1) 0 0) [.ref 10, .int x1, .int x2] h (fun r9 h7 => Wf h7 ∧ (K r9 h7))))) : Ci (m_X11_walk (d + 2) 0 0) [.ref 0, .int x1, .int x2] h K := by
  refine Ct.of (fun _ _ _ => trivial) rfl (Nat.le_of_ble_eq_true rfl) ?_
  show AW (m_X11_walk (d + 2) 0 0) 0 0 0 [(0, .ref 0), (1, .int x1), (2, .int x2)] [] h (kI K)
  refine aw_iload_n (i := 1) rfl d_X11_walk_0 1 rfl ?_
  refine aw_Si [.int x1] [] d_X11_walk_1 (cS_X11_isPlace (d + 0) 0 0) tw_540 rfl (rr0 (Nat.le_of_ble_eq_true rfl) (Nat.le_of_ble_eq_true rfl)) (Nat.le_of_ble_eq_true rfl) xs0 (s_X11_isPlace _ _ x1) (fun _ _ kk => ?_)
  obtain ⟨e1, e2⟩ := kk
  rw [e1, e2]
  refine aw_ifb_eq (tgt := 26) d_X11_walk_4 rfl (fun c3 => ?_) (fun c3 => ?_)
  · have k := k.1 c3
    refine aw_iconst (v := (-1)) d_X11_walk_26 ic_m1 ?_
    exact aw_iret rfl d_X11_walk_27 ⟨Nat.le_refl _, Nat.le_refl _⟩ ⟨_, rfl, k⟩
  · have k := k.2 c3
    refine aw_iload_n (i := 2) rfl d_X11_walk_7 2 rfl ?_
    refine aw_Si [.int x2] [] d_X11_walk_8 (cS_X11_isPlace (d + 0) 0 0) tw_540 rfl (rr0 (Nat.le_of_ble_eq_true rfl) (Nat.le_of_ble_eq_true rfl)) (Nat.le_of_ble_eq_true rfl) xs0 (s_X11_isPlace _ _ x2) (fun _ _ kk => ?_)
    obtain ⟨e4, e5⟩ := kk
    rw [e4, e5]
    refine aw_ifb_eq (tgt := 26) d_X11_walk_11 rfl (fun c6 => ?_) (fun c6 => ?_)
    · have k := k.1 c6
      refine aw_iconst (v := (-1)) d_X11_walk_26 ic_m1 ?_
      exact aw_iret rfl d_X11_walk_27 ⟨Nat.le_refl _, Nat.le_refl _⟩ ⟨_, rfl, k⟩
    · have k := k.2 c6
      refine aw_aload_n (i := 0) rfl d_X11_walk_14 0 rfl ?_
      refine aw_getr (k0 := 1) kc_11 (ws_0 w) (Nat.le_of_ble_eq_true rfl) tw_488 d_X11_walk_15 rfl (wr_0_1 w) ?_
      refine aw_iload_n (i := 1) rfl d_X11_walk_18 1 rfl ?_
      refine aw_iload_n (i := 2) rfl d_X11_walk_19 2 rfl ?_
      refine aw_Vi 10 [.int x1, .int x2] [] d_X11_walk_20 (cV_X9_minutes (d + 1) 0 0) kc_9 (ws_10 w) tw_557 rfl (rr0 (Nat.le_of_ble_eq_true rfl) (Nat.le_of_ble_eq_true rfl)) (Nat.le_of_ble_eq_true rfl) xs0 k (fun r9 h7 kk => ?_)
      obtain ⟨w8, k⟩ := kk
      refine aw_goto (tgt := 27) d_X11_walk_23 rfl ?_
      exact aw_iret rfl d_X11_walk_27 ⟨Nat.le_refl _, Nat.le_refl _⟩ ⟨_, rfl, k⟩
theorem t_X11_feed (d : Nat) (h : Hp_) (w : Wf h) (x1 : Int32) (x2 : Int32) (x3 : Int32) (x4 : Int32) (x5 : Int32) (K : Int32 → Hp_ → Prop) (k : Ci (m_X8_takeIn (d + 1) 0 0) [.ref 11, .int x1, .int x2, .int x3, .int x4, .int x5] h (fun r3 h1 => Wf h1 ∧ (K r3 h1))) : Ci (m_X11_feed (d + 2) 0 0) [.ref 0, .int x1, .int x2, .int x3, .int x4, .int x5] h K := by
  refine Ct.of (fun _ _ _ => trivial) rfl (Nat.le_of_ble_eq_true rfl) ?_
  show AW (m_X11_feed (d + 2) 0 0) 0 0 0 [(0, .ref 0), (1, .int x1), (2, .int x2), (3, .int x3), (4, .int x4), (5, .int x5)] [] h (kI K)
  refine aw_aload_n (i := 0) rfl d_X11_feed_0 0 rfl ?_
  refine aw_getr (k0 := 2) kc_11 (ws_0 w) (Nat.le_of_ble_eq_true rfl) tw_489 d_X11_feed_1 rfl (wr_0_2 w) ?_
  refine aw_iload_n (i := 1) rfl d_X11_feed_4 1 rfl ?_
  refine aw_iload_n (i := 2) rfl d_X11_feed_5 2 rfl ?_
  refine aw_iload_n (i := 3) rfl d_X11_feed_6 3 rfl ?_
  refine aw_iload d_X11_feed_7 4 rfl ?_
  refine aw_iload d_X11_feed_9 5 rfl ?_
  refine aw_Vi 11 [.int x1, .int x2, .int x3, .int x4, .int x5] [] d_X11_feed_11 (cV_X8_takeIn (d + 1) 0 0) kc_8 (ws_11 w) tw_645 rfl (rr0 (Nat.le_of_ble_eq_true rfl) (Nat.le_of_ble_eq_true rfl)) (Nat.le_of_ble_eq_true rfl) xs0 k (fun r3 h1 kk => ?_)
  obtain ⟨w2, k⟩ := kk
  exact aw_iret rfl d_X11_feed_14 ⟨Nat.le_refl _, Nat.le_refl _⟩ ⟨_, rfl, k⟩
theorem t_X11_tick (d : Nat) (h : Hp_) (w : Wf h) (x1 : Int32) (K : Int32 → Hp_ → Prop) (k : (¬ (0 ≤ x1 ∧ x1 ≤ 1500) → K (-1) h) ∧ ((0 ≤ x1 ∧ x1 ≤ 1500) → (((h_i h 0 0) + x1) ≤ 20000 → Cv (m_X11_makeHistory (d + 2) 0 0) [.ref 0, .int ((h_i h 0 0) + x1)] h (fun h5 => Wf h5 ∧ (AW (m_X11_tick (d + 7) 0 0) 0 0 37 [(0, .ref 0), (1, .int x1), (2, .int 0)] [] h5 (kI K)))) ∧ (¬ ((h_i h 0 0) + x1) ≤ 20000 → K (-1) h))) : Ci (m_X11_tick (d + 7) 0 0) [.ref 0, .int x1] h K := by
  refine Ct.of (fun _ _ _ => trivial) rfl (Nat.le_of_ble_eq_true rfl) ?_
  show AW (m_X11_tick (d + 7) 0 0) 0 0 0 [(0, .ref 0), (1, .int x1)] [] h (kI K)
  refine aw_iload_n (i := 1) rfl d_X11_tick_0 1 rfl ?_
  refine aw_iconst (v := 0) d_X11_tick_1 ic_0 ?_
  refine aw_sipush (v := 1500) d_X11_tick_2 is_1500 ?_
  refine aw_Si [.int x1, .int 0, .int 1500] [] d_X11_tick_5 (cS_X11_within (d + 0) 0 0) tw_543 rfl (rr0 (Nat.le_of_ble_eq_true rfl) (Nat.le_of_ble_eq_true rfl)) (Nat.le_of_ble_eq_true rfl) xs0 (s_X11_within _ _ x1 0 1500) (fun _ _ kk => ?_)
  obtain ⟨e1, e2⟩ := kk
  rw [e1, e2]
  refine aw_ifb_eq (tgt := 23) d_X11_tick_8 rfl (fun c3 => ?_) (fun c3 => ?_)
  · have k := k.1 c3
    refine aw_iconst (v := (-1)) d_X11_tick_23 ic_m1 ?_
    exact aw_iret rfl d_X11_tick_24 ⟨Nat.le_refl _, Nat.le_refl _⟩ ⟨_, rfl, k⟩
  · have k := k.2 c3
    refine aw_aload_n (i := 0) rfl d_X11_tick_11 0 rfl ?_
    refine aw_geti (k0 := 0) kc_11 (ws_0 w) (Nat.le_of_ble_eq_true rfl) tw_487 d_X11_tick_12 rfl ?_
    refine aw_iload_n (i := 1) rfl d_X11_tick_15 1 rfl ?_
    refine aw_iadd d_X11_tick_16 ?_
    refine aw_sipush (v := 20000) d_X11_tick_17 is_20000 ?_
    refine aw_icmp_le (tgt := 25) d_X11_tick_20 rfl (fun c4 => ?_) (fun c4 => ?_)
    · have k := k.1 c4
      refine aw_aload_n (i := 0) rfl d_X11_tick_25 0 rfl ?_
      refine aw_aload_n (i := 0) rfl d_X11_tick_26 0 rfl ?_
      refine aw_geti (k0 := 0) kc_11 (ws_0 w) (Nat.le_of_ble_eq_true rfl) tw_487 d_X11_tick_27 rfl ?_
      refine aw_iload_n (i := 1) rfl d_X11_tick_30 1 rfl ?_
      refine aw_iadd d_X11_tick_31 ?_
      refine aw_Vv 0 [.int ((h_i h 0 0) + x1)] [] d_X11_tick_32 (cV_X11_makeHistory (d + 2) 0 0) kc_11 (ws_0 w) tw_995 rfl (rr0 (Nat.le_of_ble_eq_true rfl) (Nat.le_of_ble_eq_true rfl)) (Nat.le_of_ble_eq_true rfl) xs0 k (fun h5 kk => ?_)
      obtain ⟨w6, k⟩ := kk
      refine aw_iconst (v := 0) d_X11_tick_35 ic_0 ?_
      refine aw_istore_n (i := 2) rfl [(0, .ref 0), (1, .int x1), (2, .int 0)] d_X11_tick_36 (Nat.le_of_ble_eq_true rfl) rfl rfl ?_
      exact k
    · have k := k.2 c4
      refine aw_iconst (v := (-1)) d_X11_tick_23 ic_m1 ?_
      exact aw_iret rfl d_X11_tick_24 ⟨Nat.le_refl _, Nat.le_refl _⟩ ⟨_, rfl, k⟩
theorem t_X11_tick_37 (d : Nat) (h : Hp_) (w : Wf h) (x1 : Int32) (x2 : Int32) (K : Int32 → Hp_ → Prop) (k : (x1 ≤ x2 → K (h_i h 0 0) h) ∧ (¬ x1 ≤ x2 → ∃ b9 n10 : Nat, h_r h 0 15 = some b9 ∧ h_sh h b9 = some (3, n10) ∧ 400 ≤ b9 ∧ (vp_in (h_i h 0 0) n10 ∧ (AW (m_X11_tick (d + 7) 0 0) 0 0 67 [(0, .ref 0), (1, .int x1), (2, .int x2), (3, .int 0)] [] (h_im (h_lm h b9 ((h_i h 0 0) : Int32).toNatClampNeg (h_l h 0 14)) 0 0 ((h_i h 0 0) + 1)) (kI K))))) : AW (m_X11_tick (d + 7) 0 0) 0 0 37 [(0, .ref 0), (1, .int x1), (2, .int x2)] [] h (kI K) := by
  refine aw_iload_n (i := 2) rfl d_X11_tick_37 2 rfl ?_
  refine aw_iload_n (i := 1) rfl d_X11_tick_38 1 rfl ?_
  refine aw_icmp_ge (tgt := 118) d_X11_tick_39 rfl (fun c8 => ?_) (fun c8 => ?_)
  · have k := k.1 c8
    refine aw_aload_n (i := 0) rfl d_X11_tick_118 0 rfl ?_
    refine aw_geti (k0 := 0) kc_11 (ws_0 w) (Nat.le_of_ble_eq_true rfl) tw_487 d_X11_tick_119 rfl ?_
    exact aw_iret rfl d_X11_tick_122 ⟨Nat.le_refl _, Nat.le_refl _⟩ ⟨_, rfl, k⟩
  · have k := k.2 c8
    refine aw_aload_n (i := 0) rfl d_X11_tick_42 0 rfl ?_
    obtain ⟨b9, n10, q11, q12, l13, k⟩ := k
    refine aw_getr (k0 := 15) kc_11 (ws_0 w) (Nat.le_of_ble_eq_true rfl) tw_502 d_X11_tick_43 rfl q11 ?_
    refine aw_aload_n (i := 0) rfl d_X11_tick_46 0 rfl ?_
    refine aw_geti (k0 := 0) kc_11 (ws_0 w) (Nat.le_of_ble_eq_true rfl) tw_487 d_X11_tick_47 rfl ?_
    refine aw_aload_n (i := 0) rfl d_X11_tick_50 0 rfl ?_
    refine aw_getl (k0 := 14) kc_11 (ws_0 w) (Nat.le_of_ble_eq_true rfl) tw_501 d_X11_tick_51 rfl ?_
    obtain ⟨b14, k⟩ := k
    refine aw_last (q12) b14 d_X11_tick_54 ?_
    refine aw_aload_n (i := 0) rfl d_X11_tick_55 0 rfl ?_
    refine aw_dup d_X11_tick_56 rfl ?_
    refine aw_geti (k0 := 0) kc_11 (ws_0 w) (Nat.le_of_ble_eq_true rfl) tw_487 d_X11_tick_57 rfl ?_
    refine aw_vi (v2 := (h_i h 0 0)) (rfl) ?_
    refine aw_iconst (v := 1) d_X11_tick_60 ic_1 ?_
    refine aw_iadd d_X11_tick_61 ?_
    refine aw_puti (k0 := 0) kc_11 (ws_0 w) (Nat.le_of_ble_eq_true rfl) tw_487 d_X11_tick_62 rfl rfl nf_i ?_
    refine aw_iconst (v := 0) d_X11_tick_65 ic_0 ?_
    refine aw_istore_n (i := 3) rfl [(0, .ref 0), (1, .int x1), (2, .int x2), (3, .int 0)] d_X11_tick_66 (Nat.le_of_ble_eq_true rfl) rfl rfl ?_
    exact k
theorem t_X11_tick_67 (d : Nat) (h : Hp_) (w : Wf h) (x1 : Int32) (x2 : Int32) (x3 : Int32) (K : Int32 → Hp_ → Prop) (k : ((h_i h 0 7) ≤ x3 → AW (m_X11_tick (d + 7) 0 0) 0 0 37 [(0, .ref 0), (1, .int x1), (2, .int (x2 + 1))] [] h (kI K)) ∧ (¬ (h_i h 0 7) ≤ x3 → vp_in x3 12 ∧ ((h_r h 15 x3.toNatClampNeg = none → AW (m_X11_tick (d + 7) 0 0) 0 0 67 [(0, .ref 0), (1, .int x1), (2, .int x2), (3, .int (x3 + 1))] [] h (kI K)) ∧ (∀ b17, h_r h 15 x3.toNatClampNeg = some b17 → h_sh h b17 = some (12, 17) ∧ 400 ≤ b17 ∧ ((¬ (h_i h b17 7) = (h_i h 0 0) → AW (m_X11_tick (d + 7) 0 0) 0 0 67 [(0, .ref 0), (1, .int x1), (2, .int x2), (3, .int (x3 + 1))] [] h (kI K)) ∧ ((h_i h b17 7) = (h_i h 0 0) → Cv (m_X11_goOn (d + 6) 0 0) [.ref 0, .ref b17] h (fun h22 => Wf h22 ∧ (AW (m_X11_tick (d + 7) 0 0) 0 0 67 [(0, .ref 0), (1, .int x1), (2, .int x2), (3, .int (x3 + 1))] [] h22 (kI K))))))))) : AW (m_X11_tick (d + 7) 0 0) 0 0 67 [(0, .ref 0), (1, .int x1), (2, .int x2), (3, .int x3)] [] h (kI K) := by
  refine aw_iload_n (i := 3) rfl d_X11_tick_67 3 rfl ?_
  refine aw_aload_n (i := 0) rfl d_X11_tick_68 0 rfl ?_
  refine aw_geti (k0 := 7) kc_11 (ws_0 w) (Nat.le_of_ble_eq_true rfl) tw_494 d_X11_tick_69 rfl ?_
  refine aw_icmp_ge (tgt := 112) d_X11_tick_72 rfl (fun c15 => ?_) (fun c15 => ?_)
  · have k := k.1 c15
    refine aw_iinc (v := (x2 + 1)) [(0, .ref 0), (1, .int x1), (2, .int (x2 + 1)), (3, .int x3)] d_X11_tick_112 2 rfl rfl (Nat.le_of_ble_eq_true rfl) rfl rfl ?_
    refine aw_goto (tgt := 37) d_X11_tick_115 rfl ?_
    exact aw_lvp [0, 1, 2] [(0, .ref 0), (1, .int x1), (2, .int (x2 + 1))] rfl k
  · have k := k.2 c15
    refine aw_aload_n (i := 0) rfl d_X11_tick_75 0 rfl ?_
    refine aw_getr (k0 := 6) kc_11 (ws_0 w) (Nat.le_of_ble_eq_true rfl) tw_493 d_X11_tick_76 rfl (wr_0_6 w) ?_
    refine aw_iload_n (i := 3) rfl d_X11_tick_79 3 rfl ?_
    obtain ⟨b16, k⟩ := k
    rcases e20 : h_r h 15 x3.toNatClampNeg with _ | b17
    · refine aw_aaldn (ws_15 w) b16 e20 d_X11_tick_80 ?_
      have k := k.1 e20
      refine aw_astoreN [(0, .ref 0), (1, .int x1), (2, .int x2), (3, .int x3), (4, .null)] d_X11_tick_81 (Nat.le_of_ble_eq_true rfl) rfl rfl ?_
      refine aw_aloadN d_X11_tick_83 4 rfl ?_
      refine aw_ifnullN (tgt := 106) d_X11_tick_85 rfl ?_
      refine aw_iinc (v := (x3 + 1)) [(0, .ref 0), (1, .int x1), (2, .int x2), (3, .int (x3 + 1)), (4, .null)] d_X11_tick_106 3 rfl rfl (Nat.le_of_ble_eq_true rfl) rfl rfl ?_
      refine aw_goto (tgt := 67) d_X11_tick_109 rfl ?_
      exact aw_lvp [0, 1, 2, 3] [(0, .ref 0), (1, .int x1), (2, .int x2), (3, .int (x3 + 1))] rfl k
    · refine aw_aaldr (ws_15 w) b16 e20 d_X11_tick_80 ?_
      obtain ⟨q18, l19, k⟩ := k.2 b17 e20
      refine aw_astore [(0, .ref 0), (1, .int x1), (2, .int x2), (3, .int x3), (4, .ref b17)] d_X11_tick_81 (Nat.le_of_ble_eq_true rfl) rfl rfl ?_
      refine aw_aload d_X11_tick_83 4 rfl ?_
      refine aw_ifnull d_X11_tick_85 ?_
      refine aw_aload d_X11_tick_88 4 rfl ?_
      refine aw_geti (k0 := 7) kc_2 (q18) (Nat.le_of_ble_eq_true rfl) tw_587 d_X11_tick_90 rfl ?_
      refine aw_aload_n (i := 0) rfl d_X11_tick_93 0 rfl ?_
      refine aw_geti (k0 := 0) kc_11 (ws_0 w) (Nat.le_of_ble_eq_true rfl) tw_487 d_X11_tick_94 rfl ?_
      refine aw_icmp_ne (tgt := 106) d_X11_tick_97 rfl (fun c21 => ?_) (fun c21 => ?_)
      · have k := k.1 c21
        refine aw_iinc (v := (x3 + 1)) [(0, .ref 0), (1, .int x1), (2, .int x2), (3, .int (x3 + 1)), (4, .ref b17)] d_X11_tick_106 3 rfl rfl (Nat.le_of_ble_eq_true rfl) rfl rfl ?_
        refine aw_goto (tgt := 67) d_X11_tick_109 rfl ?_
        exact aw_lvp [0, 1, 2, 3] [(0, .ref 0), (1, .int x1), (2, .int x2), (3, .int (x3 + 1))] rfl k
      · have k := k.2 c21
        refine aw_aload_n (i := 0) rfl d_X11_tick_100 0 rfl ?_
        refine aw_aload d_X11_tick_101 4 rfl ?_
        refine aw_Vv 0 [.ref b17] [] d_X11_tick_103 (cV_X11_goOn (d + 6) 0 0) kc_11 (ws_0 w) tw_1015 rfl (rr0 (Nat.le_of_ble_eq_true rfl) (Nat.le_of_ble_eq_true rfl)) (Nat.le_of_ble_eq_true rfl) xs0 k (fun h22 kk => ?_)
        obtain ⟨w23, k⟩ := kk
        refine aw_iinc (v := (x3 + 1)) [(0, .ref 0), (1, .int x1), (2, .int x2), (3, .int (x3 + 1)), (4, .ref b17)] d_X11_tick_106 3 rfl rfl (Nat.le_of_ble_eq_true rfl) rfl rfl ?_
        refine aw_goto (tgt := 67) d_X11_tick_109 rfl ?_
        exact aw_lvp [0, 1, 2, 3] [(0, .ref 0), (1, .int x1), (2, .int x2), (3, .int (x3 + 1))] rfl k
theorem s_X3_fillChoices (d : Nat) (h : Hp_) (w : Wf h) (e2 : h_i h 19 2 = 0) (e3 : h_i h 19 3 = 0) : Cv (m_X3_fillChoices (d + 2) 0 0) [.ref 19] h (fun h' => h' = h_im (h_iw (h_iw h 89 (fl_ (fun _ => 0) (h_i h 89) 2304)) 90 (fl_ (fun _ => 0) (h_i (h_iw h 89 (fl_ (fun _ => 0) (h_i h 89) 2304)) 90) 8)) 89 (0 : Int32).toNatClampNeg (vp_nar .boolean 1)) := by
  refine t_X3_fillChoices d h _ ?_
  have key : ∀ r i : Nat, r + i = 2304 → AW (m_X3_fillChoices (d + 2) 0 0) 0 0 2 [(0, .ref 19), (1, .int (Int32.ofNat i))] [] (h_iw h 89 (fl_ (fun _ => 0) (h_i h 89) i)) (kV (fun h' => h' = h_im (h_iw (h_iw h 89 (fl_ (fun _ => 0) (h_i h 89) 2304)) 90 (fl_ (fun _ => 0) (h_i (h_iw h 89 (fl_ (fun _ => 0) (h_i h 89) 2304)) 90) 8)) 89 (0 : Int32).toNatClampNeg (vp_nar .boolean 1))) := by
    intro r
    induction r with
    | zero =>
      intro i hi
      have hi : i = 2304 := by omega
      subst hi
      refine t_X3_fillChoices_2 d _ (w.iw _ _) _ _ ⟨fun _ => ?_, fun c => absurd (by decide) c⟩
      refine Cv.mono (s_J7_fill d _ 90 8 0 (ws_90 (w.iw _ _)) (by decide)) (fun h2 z => ?_)
      obtain rfl := z.symm
      refine ⟨(w.iw _ _).iw _ _, vin_c (by decide), ?_⟩
      exact t_X3_fillChoices_48 d _ (((w.iw _ _).iw _ _).im _ _ _) _ _ _ ⟨fun _ => rfl, fun c => absurd (show h_i h 19 2 ≤ 0 from by rw [e2]; decide) c⟩
    | succ r ih =>
      intro i hi
      refine t_X3_fillChoices_2 d _ (w.iw _ _) _ _ ⟨fun c => absurd ((on_le (i := 2304) (by decide) (by omega)).mp c) (by omega), fun _ => ⟨on_in (by omega) (by decide), ?_⟩⟩
      rw [on_nat (by omega), on_suc, show vp_nar .boolean (0 : Int32) = 0 from rfl, iw_st h 89 i (fun _ => 0) (h_i h 89)]
      exact ih (i + 1) (by omega)
  have k := key 2304 0 (by omega)
  rw [iw_0] at k
  exact k
theorem t_X9_lay (d : Nat) (h : Hp_) (w : Wf h) (x1 : Int32) (x2 : Int32) (x3 : Int32) (K : Int32 → Hp_ → Prop) (k : ((h_i h 10 1) < 40 → AW (m_X9_lay (d + 1) 0 0) 0 0 14 [(0, .ref 10), (1, .int x1), (2, .int x2), (3, .int x3), (4, .int 0)] [] h (kI K)) ∧ (¬ (h_i h 10 1) < 40 → K (-1) h)) : Ci (m_X9_lay (d + 1) 0 0) [.ref 10, .int x1, .int x2, .int x3] h K := by
  refine Ct.of (fun _ _ _ => trivial) rfl (Nat.le_of_ble_eq_true rfl) ?_
  show AW (m_X9_lay (d + 1) 0 0) 0 0 0 [(0, .ref 10), (1, .int x1), (2, .int x2), (3, .int x3)] [] h (kI K)
  refine aw_aload_n (i := 0) rfl d_X9_lay_0 0 rfl ?_
  refine aw_geti (k0 := 1) kc_9 (ws_10 w) (Nat.le_of_ble_eq_true rfl) tw_43 d_X9_lay_1 rfl ?_
  refine aw_bipush (v := 40) d_X9_lay_4 ib_40 ?_
  refine aw_icmp_lt (tgt := 11) d_X9_lay_6 rfl (fun c1 => ?_) (fun c1 => ?_)
  · have k := k.1 c1
    refine aw_iconst (v := 0) d_X9_lay_11 ic_0 ?_
    refine aw_istore [(0, .ref 10), (1, .int x1), (2, .int x2), (3, .int x3), (4, .int 0)] d_X9_lay_12 (Nat.le_of_ble_eq_true rfl) rfl rfl ?_
    exact k
  · have k := k.2 c1
    refine aw_iconst (v := (-1)) d_X9_lay_9 ic_m1 ?_
    exact aw_iret rfl d_X9_lay_10 ⟨Nat.le_refl _, Nat.le_refl _⟩ ⟨_, rfl, k⟩
theorem t_X9_lay_14 (d : Nat) (h : Hp_) (w : Wf h) (x1 : Int32) (x2 : Int32) (x3 : Int32) (x4 : Int32) (K : Int32 → Hp_ → Prop) (k : (16 ≤ x4 → K (((h_i h 10 1) + 1) - 1) (h_im h 10 1 ((h_i h 10 1) + 1))) ∧ (¬ 16 ≤ x4 → AW (m_X9_lay (d + 1) 0 0) 0 0 24 [(0, .ref 10), (1, .int x1), (2, .int x2), (3, .int x3), (4, .int x4), (5, .int 0)] [] h (kI K))) : AW (m_X9_lay (d + 1) 0 0) 0 0 14 [(0, .ref 10), (1, .int x1), (2, .int x2), (3, .int x3), (4, .int x4)] [] h (kI K) := by
  refine aw_iload d_X9_lay_14 4 rfl ?_
  refine aw_bipush (v := 16) d_X9_lay_16 ib_16 ?_
  refine aw_icmp_ge (tgt := 135) d_X9_lay_18 rfl (fun c2 => ?_) (fun c2 => ?_)
  · have k := k.1 c2
    refine aw_aload_n (i := 0) rfl d_X9_lay_135 0 rfl ?_
    refine aw_dup d_X9_lay_136 rfl ?_
    refine aw_geti (k0 := 1) kc_9 (ws_10 w) (Nat.le_of_ble_eq_true rfl) tw_43 d_X9_lay_137 rfl ?_
    refine aw_iconst (v := 1) d_X9_lay_140 ic_1 ?_
    refine aw_iadd d_X9_lay_141 ?_
    refine aw_puti (k0 := 1) kc_9 (ws_10 w) (Nat.le_of_ble_eq_true rfl) tw_43 d_X9_lay_142 rfl rfl nf_i ?_
    refine aw_aload_n (i := 0) rfl d_X9_lay_145 0 rfl ?_
    refine aw_geti (k0 := 1) kc_9 (ws_10 w) (Nat.le_of_ble_eq_true rfl) tw_43 d_X9_lay_146 rfl ?_
    refine aw_vi (v2 := ((h_i h 10 1) + 1)) (rfl) ?_
    refine aw_iconst (v := 1) d_X9_lay_149 ic_1 ?_
    refine aw_isub d_X9_lay_150 ?_
    exact aw_iret rfl d_X9_lay_151 ⟨Nat.le_refl _, Nat.le_refl _⟩ ⟨_, rfl, k⟩
  · have k := k.2 c2
    refine aw_iconst (v := 0) d_X9_lay_21 ic_0 ?_
    refine aw_istore [(0, .ref 10), (1, .int x1), (2, .int x2), (3, .int x3), (4, .int x4), (5, .int 0)] d_X9_lay_22 (Nat.le_of_ble_eq_true rfl) rfl rfl ?_
    exact k
theorem t_X9_lay_24 (d : Nat) (h : Hp_) (w : Wf h) (x1 : Int32) (x2 : Int32) (x3 : Int32) (x4 : Int32) (x5 : Int32) (K : Int32 → Hp_ → Prop) (k : (16 ≤ x5 → AW (m_X9_lay (d + 1) 0 0) 0 0 14 [(0, .ref 10), (1, .int x1), (2, .int x2), (3, .int x3), (4, .int (x4 + 1))] [] h (kI K)) ∧ (¬ 16 ≤ x5 → vp_in ((x4 * 16) + x1) 256 ∧ (vp_in ((x2 * 16) + x5) 256 ∧ (vp_in ((x4 * 16) + x2) 256 ∧ (vp_in ((x1 * 16) + x5) 256 ∧ (vp_in ((x4 * 16) + x5) 256 ∧ (vp_in ((x4 * 16) + x5) 256 ∧ (AW (m_X9_lay (d + 1) 0 0) 0 0 24 [(0, .ref 10), (1, .int x1), (2, .int x2), (3, .int x3), (4, .int x4), (5, .int (x5 + 1))] [] (h_im h 30 (((x4 * 16) + x5) : Int32).toNatClampNeg (if (if (((h_i h 30 (((x4 * 16) + x2) : Int32).toNatClampNeg) + x3) + (h_i h 30 (((x1 * 16) + x5) : Int32).toNatClampNeg)) < (((h_i h 30 (((x4 * 16) + x1) : Int32).toNatClampNeg) + x3) + (h_i h 30 (((x2 * 16) + x5) : Int32).toNatClampNeg)) then (((h_i h 30 (((x4 * 16) + x2) : Int32).toNatClampNeg) + x3) + (h_i h 30 (((x1 * 16) + x5) : Int32).toNatClampNeg)) else (((h_i h 30 (((x4 * 16) + x1) : Int32).toNatClampNeg) + x3) + (h_i h 30 (((x2 * 16) + x5) : Int32).toNatClampNeg))) < (h_i h 30 (((x4 * 16) + x5) : Int32).toNatClampNeg) then (if (((h_i h 30 (((x4 * 16) + x2) : Int32).toNatClampNeg) + x3) + (h_i h 30 (((x1 * 16) + x5) : Int32).toNatClampNeg)) < (((h_i h 30 (((x4 * 16) + x1) : Int32).toNatClampNeg) + x3) + (h_i h 30 (((x2 * 16) + x5) : Int32).toNatClampNeg)) then (((h_i h 30 (((x4 * 16) + x2) : Int32).toNatClampNeg) + x3) + (h_i h 30 (((x1 * 16) + x5) : Int32).toNatClampNeg)) else (((h_i h 30 (((x4 * 16) + x1) : Int32).toNatClampNeg) + x3) + (h_i h 30 (((x2 * 16) + x5) : Int32).toNatClampNeg))) else (h_i h 30 (((x4 * 16) + x5) : Int32).toNatClampNeg))) (kI K))))))))) : AW (m_X9_lay (d + 1) 0 0) 0 0 24 [(0, .ref 10), (1, .int x1), (2, .int x2), (3, .int x3), (4, .int x4), (5, .int x5)] [] h (kI K) := by
  refine aw_iload d_X9_lay_24 5 rfl ?_
  refine aw_bipush (v := 16) d_X9_lay_26 ib_16 ?_
  refine aw_icmp_ge (tgt := 129) d_X9_lay_28 rfl (fun c3 => ?_) (fun c3 => ?_)
  · have k := k.1 c3
    refine aw_iinc (v := (x4 + 1)) [(0, .ref 10), (1, .int x1), (2, .int x2), (3, .int x3), (4, .int (x4 + 1)), (5, .int x5)] d_X9_lay_129 4 rfl rfl (Nat.le_of_ble_eq_true rfl) rfl rfl ?_
    refine aw_goto (tgt := 14) d_X9_lay_132 rfl ?_
    exact aw_lvp [0, 1, 2, 3, 4] [(0, .ref 10), (1, .int x1), (2, .int x2), (3, .int x3), (4, .int (x4 + 1))] rfl k
  · have k := k.2 c3
    refine aw_aload_n (i := 0) rfl d_X9_lay_31 0 rfl ?_
    refine aw_getr (k0 := 0) kc_9 (ws_10 w) (Nat.le_of_ble_eq_true rfl) tw_42 d_X9_lay_32 rfl (wr_10_0 w) ?_
    refine aw_iload d_X9_lay_35 4 rfl ?_
    refine aw_bipush (v := 16) d_X9_lay_37 ib_16 ?_
    refine aw_imul d_X9_lay_39 ?_
    refine aw_iload_n (i := 1) rfl d_X9_lay_40 1 rfl ?_
    refine aw_iadd d_X9_lay_41 ?_
    obtain ⟨b4, k⟩ := k
    refine aw_iald (ws_30 w) b4 d_X9_lay_42 ?_
    refine aw_iload_n (i := 3) rfl d_X9_lay_43 3 rfl ?_
    refine aw_iadd d_X9_lay_44 ?_
    refine aw_aload_n (i := 0) rfl d_X9_lay_45 0 rfl ?_
    refine aw_getr (k0 := 0) kc_9 (ws_10 w) (Nat.le_of_ble_eq_true rfl) tw_42 d_X9_lay_46 rfl (wr_10_0 w) ?_
    refine aw_iload_n (i := 2) rfl d_X9_lay_49 2 rfl ?_
    refine aw_bipush (v := 16) d_X9_lay_50 ib_16 ?_
    refine aw_imul d_X9_lay_52 ?_
    refine aw_iload d_X9_lay_53 5 rfl ?_
    refine aw_iadd d_X9_lay_55 ?_
    obtain ⟨b5, k⟩ := k
    refine aw_iald (ws_30 w) b5 d_X9_lay_56 ?_
    refine aw_iadd d_X9_lay_57 ?_
    refine aw_istore [(0, .ref 10), (1, .int x1), (2, .int x2), (3, .int x3), (4, .int x4), (5, .int x5), (6, .int (((h_i h 30 (((x4 * 16) + x1) : Int32).toNatClampNeg) + x3) + (h_i h 30 (((x2 * 16) + x5) : Int32).toNatClampNeg)))] d_X9_lay_58 (Nat.le_of_ble_eq_true rfl) rfl rfl ?_
    refine aw_aload_n (i := 0) rfl d_X9_lay_60 0 rfl ?_
    refine aw_getr (k0 := 0) kc_9 (ws_10 w) (Nat.le_of_ble_eq_true rfl) tw_42 d_X9_lay_61 rfl (wr_10_0 w) ?_
    refine aw_iload d_X9_lay_64 4 rfl ?_
    refine aw_bipush (v := 16) d_X9_lay_66 ib_16 ?_
    refine aw_imul d_X9_lay_68 ?_
    refine aw_iload_n (i := 2) rfl d_X9_lay_69 2 rfl ?_
    refine aw_iadd d_X9_lay_70 ?_
    obtain ⟨b6, k⟩ := k
    refine aw_iald (ws_30 w) b6 d_X9_lay_71 ?_
    refine aw_iload_n (i := 3) rfl d_X9_lay_72 3 rfl ?_
    refine aw_iadd d_X9_lay_73 ?_
    refine aw_aload_n (i := 0) rfl d_X9_lay_74 0 rfl ?_
    refine aw_getr (k0 := 0) kc_9 (ws_10 w) (Nat.le_of_ble_eq_true rfl) tw_42 d_X9_lay_75 rfl (wr_10_0 w) ?_
    refine aw_iload_n (i := 1) rfl d_X9_lay_78 1 rfl ?_
    refine aw_bipush (v := 16) d_X9_lay_79 ib_16 ?_
    refine aw_imul d_X9_lay_81 ?_
    refine aw_iload d_X9_lay_82 5 rfl ?_
    refine aw_iadd d_X9_lay_84 ?_
    obtain ⟨b7, k⟩ := k
    refine aw_iald (ws_30 w) b7 d_X9_lay_85 ?_
    refine aw_iadd d_X9_lay_86 ?_
    refine aw_istore [(0, .ref 10), (1, .int x1), (2, .int x2), (3, .int x3), (4, .int x4), (5, .int x5), (6, .int (((h_i h 30 (((x4 * 16) + x1) : Int32).toNatClampNeg) + x3) + (h_i h 30 (((x2 * 16) + x5) : Int32).toNatClampNeg))), (7, .int (((h_i h 30 (((x4 * 16) + x2) : Int32).toNatClampNeg) + x3) + (h_i h 30 (((x1 * 16) + x5) : Int32).toNatClampNeg)))] d_X9_lay_87 (Nat.le_of_ble_eq_true rfl) rfl rfl ?_
    refine aw_iload d_X9_lay_89 4 rfl ?_
    refine aw_bipush (v := 16) d_X9_lay_91 ib_16 ?_
    refine aw_imul d_X9_lay_93 ?_
    refine aw_iload d_X9_lay_94 5 rfl ?_
    refine aw_iadd d_X9_lay_96 ?_
    refine aw_istore [(0, .ref 10), (1, .int x1), (2, .int x2), (3, .int x3), (4, .int x4), (5, .int x5), (6, .int (((h_i h 30 (((x4 * 16) + x1) : Int32).toNatClampNeg) + x3) + (h_i h 30 (((x2 * 16) + x5) : Int32).toNatClampNeg))), (7, .int (((h_i h 30 (((x4 * 16) + x2) : Int32).toNatClampNeg) + x3) + (h_i h 30 (((x1 * 16) + x5) : Int32).toNatClampNeg))), (8, .int ((x4 * 16) + x5))] d_X9_lay_97 (Nat.le_of_ble_eq_true rfl) rfl rfl ?_
    refine aw_aload_n (i := 0) rfl d_X9_lay_99 0 rfl ?_
    refine aw_getr (k0 := 0) kc_9 (ws_10 w) (Nat.le_of_ble_eq_true rfl) tw_42 d_X9_lay_100 rfl (wr_10_0 w) ?_
    refine aw_iload d_X9_lay_103 8 rfl ?_
    refine aw_aload_n (i := 0) rfl d_X9_lay_105 0 rfl ?_
    refine aw_getr (k0 := 0) kc_9 (ws_10 w) (Nat.le_of_ble_eq_true rfl) tw_42 d_X9_lay_106 rfl (wr_10_0 w) ?_
    refine aw_iload d_X9_lay_109 8 rfl ?_
    obtain ⟨b8, k⟩ := k
    refine aw_iald (ws_30 w) b8 d_X9_lay_111 ?_
    refine aw_iload d_X9_lay_112 6 rfl ?_
    refine aw_iload d_X9_lay_114 7 rfl ?_
    refine aw_mmin d_X9_lay_116 tw_550 (show 1 ≤ (d + 1) by omega) (Nat.le_trans (Nat.le_of_ble_eq_true rfl) (show 100 ≤ 100 * (d + 1) by omega)) ⟨Nat.le_refl _, Nat.le_refl _⟩ ?_
    refine aw_mmin d_X9_lay_119 tw_550 (show 1 ≤ (d + 1) by omega) (Nat.le_trans (Nat.le_of_ble_eq_true rfl) (show 100 ≤ 100 * (d + 1) by omega)) ⟨Nat.le_refl _, Nat.le_refl _⟩ ?_
    obtain ⟨b9, k⟩ := k
    refine aw_iast (ws_30 w) b9 d_X9_lay_122 ?_
    refine aw_iinc (v := (x5 + 1)) [(0, .ref 10), (1, .int x1), (2, .int x2), (3, .int x3), (4, .int x4), (5, .int (x5 + 1)), (6, .int (((h_i h 30 (((x4 * 16) + x1) : Int32).toNatClampNeg) + x3) + (h_i h 30 (((x2 * 16) + x5) : Int32).toNatClampNeg))), (7, .int (((h_i h 30 (((x4 * 16) + x2) : Int32).toNatClampNeg) + x3) + (h_i h 30 (((x1 * 16) + x5) : Int32).toNatClampNeg))), (8, .int ((x4 * 16) + x5))] d_X9_lay_123 5 rfl rfl (Nat.le_of_ble_eq_true rfl) rfl rfl ?_
    refine aw_goto (tgt := 24) d_X9_lay_126 rfl ?_
    exact aw_lvp [0, 1, 2, 3, 4, 5] [(0, .ref 10), (1, .int x1), (2, .int x2), (3, .int x3), (4, .int x4), (5, .int (x5 + 1))] rfl k
