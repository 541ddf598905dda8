theorem t_X12_atom (d : Nat) (h : Hp_) (w : Wf h)  (K : Hp_ → Prop) (k : Ci (m_X12_look (d + 0) 0 0) [.ref 1] h (fun r3 h1 => Wf h1 ∧ ((¬ r3 = 91 → Ci (m_X12_isLetter (d + 0) 0 0) [.int r3, .int (h_i h1 1 37)] h1 (fun r7 h5 => Wf h5 ∧ ((r7 = 0 → Ci (m_X12_number (d + 1) 0 0) [.ref 1] h5 (fun r11 h9 => Wf h9 ∧ (Cv (m_X12_say (d + 0) 0 0) [.ref 1, .int 0] h9 (fun h12 => Wf h12 ∧ (Cv (m_X12_say (d + 0) 0 0) [.ref 1, .int r11] h12 (fun h15 => Wf h15 ∧ (K h15))))))) ∧ (¬ r7 = 0 → Cv (m_X12_say (d + 0) 0 0) [.ref 1, .int 1] (h_im h5 1 33 ((h_i h5 1 33) + 1)) (fun h18 => Wf h18 ∧ (Cv (m_X12_say (d + 0) 0 0) [.ref 1, .int r3] h18 (fun h21 => Wf h21 ∧ (K h21)))))))) ∧ (r3 = 91 → Ci (m_X12_opens (d + 1) 0 0) [.ref 1] h1 (fun r26 h24 => Wf h24 ∧ ((r26 = 0 → K h24) ∧ (¬ r26 = 0 → Cv (m_X12_sum (d + 53) 0 0) [.ref 1] h24 (fun h28 => Wf h28 ∧ (Cv (m_X12_closes (d + 1) 0 0) [.ref 1, .int 93] h28 (fun h31 => Wf h31 ∧ (K h31))))))))))) : Cv (m_X12_atom (d + 61) 0 0) [.ref 1] h K := by
  refine Ct.of (fun _ _ _ => trivial) rfl (Nat.le_of_ble_eq_true rfl) ?_
  show AW (m_X12_atom (d + 61) 0 0) 0 0 0 [(0, .ref 1)] [] h (kV K)
  refine aw_aload_n (i := 0) rfl d_X12_atom_0 0 rfl ?_
  refine aw_Vi 1 [] [] d_X12_atom_1 (cV_X12_look (d + 0) 0 0) kc_12 (ws_1 w) tw_2206 rfl (rr0 (Nat.le_of_ble_eq_true rfl) (Nat.le_of_ble_eq_true rfl)) (Nat.le_of_ble_eq_true rfl) xs0 k (fun r3 h1 kk => ?_)
  obtain ⟨w2, k⟩ := kk
  refine aw_istore_n (i := 1) rfl [(0, .ref 1), (1, .int r3)] d_X12_atom_4 (Nat.le_of_ble_eq_true rfl) rfl rfl ?_
  refine aw_iload_n (i := 1) rfl d_X12_atom_5 1 rfl ?_
  refine aw_bipush (v := 91) d_X12_atom_6 ib_91 ?_
  refine aw_icmp_ne (tgt := 31) d_X12_atom_8 rfl (fun c4 => ?_) (fun c4 => ?_)
  · have k := k.1 c4
    refine aw_iload_n (i := 1) rfl d_X12_atom_31 1 rfl ?_
    refine aw_aload_n (i := 0) rfl d_X12_atom_32 0 rfl ?_
    refine aw_geti (k0 := 37) kc_12 (ws_1 w2) (Nat.le_of_ble_eq_true rfl) tw_1779 d_X12_atom_33 rfl ?_
    refine aw_Si [.int r3, .int (h_i h1 1 37)] [] d_X12_atom_36 (cS_X12_isLetter (d + 0) 0 0) tw_2268 rfl (rr0 (Nat.le_of_ble_eq_true rfl) (Nat.le_of_ble_eq_true rfl)) (Nat.le_of_ble_eq_true rfl) xs0 k (fun r7 h5 kk => ?_)
    obtain ⟨w6, k⟩ := kk
    refine aw_if_eq (tgt := 65) d_X12_atom_39 rfl (fun c8 => ?_) (fun c8 => ?_)
    · have k := k.1 c8
      refine aw_aload_n (i := 0) rfl d_X12_atom_65 0 rfl ?_
      refine aw_Vi 1 [] [] d_X12_atom_66 (cV_X12_number (d + 1) 0 0) kc_12 (ws_1 w6) tw_2218 rfl (rr0 (Nat.le_of_ble_eq_true rfl) (Nat.le_of_ble_eq_true rfl)) (Nat.le_of_ble_eq_true rfl) xs0 k (fun r11 h9 kk => ?_)
      obtain ⟨w10, k⟩ := kk
      refine aw_istore_n (i := 2) rfl [(0, .ref 1), (1, .int r3), (2, .int r11)] d_X12_atom_69 (Nat.le_of_ble_eq_true rfl) rfl rfl ?_
      refine aw_aload_n (i := 0) rfl d_X12_atom_70 0 rfl ?_
      refine aw_iconst (v := 0) d_X12_atom_71 ic_0 ?_
      refine aw_Vv 1 [.int 0] [] d_X12_atom_72 (cV_X12_say (d + 0) 0 0) kc_12 (ws_1 w10) tw_2210 rfl (rr0 (Nat.le_of_ble_eq_true rfl) (Nat.le_of_ble_eq_true rfl)) (Nat.le_of_ble_eq_true rfl) xs0 k (fun h12 kk => ?_)
      obtain ⟨w13, k⟩ := kk
      refine aw_aload_n (i := 0) rfl d_X12_atom_75 0 rfl ?_
      refine aw_iload_n (i := 2) rfl d_X12_atom_76 2 rfl ?_
      refine aw_Vv 1 [.int r11] [] d_X12_atom_77 (cV_X12_say (d + 0) 0 0) kc_12 (ws_1 w13) tw_2210 rfl (rr0 (Nat.le_of_ble_eq_true rfl) (Nat.le_of_ble_eq_true rfl)) (Nat.le_of_ble_eq_true rfl) xs0 k (fun h15 kk => ?_)
      obtain ⟨w16, k⟩ := kk
      exact aw_vret rfl d_X12_atom_80 ⟨Nat.le_refl _, Nat.le_refl _⟩ ⟨rfl, k⟩
    · have k := k.2 c8
      refine aw_aload_n (i := 0) rfl d_X12_atom_42 0 rfl ?_
      refine aw_dup d_X12_atom_43 rfl ?_
      refine aw_geti (k0 := 33) kc_12 (ws_1 w6) (Nat.le_of_ble_eq_true rfl) tw_1775 d_X12_atom_44 rfl ?_
      refine aw_iconst (v := 1) d_X12_atom_47 ic_1 ?_
      refine aw_iadd d_X12_atom_48 ?_
      refine aw_puti (k0 := 33) kc_12 (ws_1 w6) (Nat.le_of_ble_eq_true rfl) tw_1775 d_X12_atom_49 rfl rfl nf_i ?_
      refine aw_aload_n (i := 0) rfl d_X12_atom_52 0 rfl ?_
      refine aw_iconst (v := 1) d_X12_atom_53 ic_1 ?_
      refine aw_Vv 1 [.int 1] [] d_X12_atom_54 (cV_X12_say (d + 0) 0 0) kc_12 (ws_1 w6) tw_2210 rfl (rr0 (Nat.le_of_ble_eq_true rfl) (Nat.le_of_ble_eq_true rfl)) (Nat.le_of_ble_eq_true rfl) xs0 k (fun h18 kk => ?_)
      obtain ⟨w19, k⟩ := kk
      refine aw_aload_n (i := 0) rfl d_X12_atom_57 0 rfl ?_
      refine aw_iload_n (i := 1) rfl d_X12_atom_58 1 rfl ?_
      refine aw_Vv 1 [.int r3] [] d_X12_atom_59 (cV_X12_say (d + 0) 0 0) kc_12 (ws_1 w19) tw_2210 rfl (rr0 (Nat.le_of_ble_eq_true rfl) (Nat.le_of_ble_eq_true rfl)) (Nat.le_of_ble_eq_true rfl) xs0 k (fun h21 kk => ?_)
      obtain ⟨w22, k⟩ := kk
      refine aw_goto (tgt := 80) d_X12_atom_62 rfl ?_
      exact aw_vret rfl d_X12_atom_80 ⟨Nat.le_refl _, Nat.le_refl _⟩ ⟨rfl, k⟩
  · have k := k.2 c4
    refine aw_aload_n (i := 0) rfl d_X12_atom_11 0 rfl ?_
    refine aw_Vi 1 [] [] d_X12_atom_12 (cV_X12_opens (d + 1) 0 0) kc_12 (ws_1 w2) tw_2260 rfl (rr0 (Nat.le_of_ble_eq_true rfl) (Nat.le_of_ble_eq_true rfl)) (Nat.le_of_ble_eq_true rfl) xs0 k (fun r26 h24 kk => ?_)
    obtain ⟨w25, k⟩ := kk
    refine aw_if_eq (tgt := 80) d_X12_atom_15 rfl (fun c27 => ?_) (fun c27 => ?_)
    · have k := k.1 c27
      exact aw_vret rfl d_X12_atom_80 ⟨Nat.le_refl _, Nat.le_refl _⟩ ⟨rfl, k⟩
    · have k := k.2 c27
      refine aw_aload_n (i := 0) rfl d_X12_atom_18 0 rfl ?_
      refine aw_Vv 1 [] [] d_X12_atom_19 (cV_X12_sum (d + 53) 0 0) kc_12 (ws_1 w25) tw_2248 rfl (rr0 (Nat.le_of_ble_eq_true rfl) (Nat.le_of_ble_eq_true rfl)) (Nat.le_of_ble_eq_true rfl) xs0 k (fun h28 kk => ?_)
      obtain ⟨w29, k⟩ := kk
      refine aw_aload_n (i := 0) rfl d_X12_atom_22 0 rfl ?_
      refine aw_bipush (v := 93) d_X12_atom_23 ib_93 ?_
      refine aw_Vv 1 [.int 93] [] d_X12_atom_25 (cV_X12_closes (d + 1) 0 0) kc_12 (ws_1 w29) tw_2264 rfl (rr0 (Nat.le_of_ble_eq_true rfl) (Nat.le_of_ble_eq_true rfl)) (Nat.le_of_ble_eq_true rfl) xs0 k (fun h31 kk => ?_)
      obtain ⟨w32, k⟩ := kk
      refine aw_goto (tgt := 80) d_X12_atom_28 rfl ?_
      exact aw_vret rfl d_X12_atom_80 ⟨Nat.le_refl _, Nat.le_refl _⟩ ⟨rfl, k⟩
theorem t_X12_term (d : Nat) (h : Hp_) (w : Wf h)  (K : Hp_ → Prop) (k : Cv (m_X12_atom (d + 51) 0 0) [.ref 1] h (fun h1 => Wf h1 ∧ (AW (m_X12_term (d + 52) 0 0) 0 0 4 [(0, .ref 1)] [] h1 (kV K)))) : Cv (m_X12_term (d + 52) 0 0) [.ref 1] h K := by
  refine Ct.of (fun _ _ _ => trivial) rfl (Nat.le_of_ble_eq_true rfl) ?_
  show AW (m_X12_term (d + 52) 0 0) 0 0 0 [(0, .ref 1)] [] h (kV K)
  refine aw_aload_n (i := 0) rfl d_X12_term_0 0 rfl ?_
  refine aw_Vv 1 [] [] d_X12_term_1 (cV_X12_atom (d + 51) 0 0) kc_12 (ws_1 w) tw_2256 rfl (rr0 (Nat.le_of_ble_eq_true rfl) (Nat.le_of_ble_eq_true rfl)) (Nat.le_of_ble_eq_true rfl) xs0 k (fun h1 kk => ?_)
  obtain ⟨w2, k⟩ := kk
  exact k
theorem t_X12_term_4 (d : Nat) (h : Hp_) (w : Wf h)  (K : Hp_ → Prop) (k : (¬ (h_i h 1 34) = (-1) → K h) ∧ ((h_i h 1 34) = (-1) → Ci (m_X12_look (d + 0) 0 0) [.ref 1] h (fun r7 h5 => Wf h5 ∧ ((¬ r7 = 42 → K h5) ∧ (r7 = 42 → Cv (m_X12_atom (d + 51) 0 0) [.ref 1] (h_im h5 1 33 ((h_i h5 1 33) + 1)) (fun h9 => Wf h9 ∧ (Cv (m_X12_say (d + 0) 0 0) [.ref 1, .int 42] h9 (fun h12 => Wf h12 ∧ (AW (m_X12_term (d + 52) 0 0) 0 0 4 [(0, .ref 1)] [] h12 (kV K)))))))))) : AW (m_X12_term (d + 52) 0 0) 0 0 4 [(0, .ref 1)] [] h (kV K) := by
  refine aw_aload_n (i := 0) rfl d_X12_term_4 0 rfl ?_
  refine aw_geti (k0 := 34) kc_12 (ws_1 w) (Nat.le_of_ble_eq_true rfl) tw_1776 d_X12_term_5 rfl ?_
  refine aw_iconst (v := (-1)) d_X12_term_8 ic_m1 ?_
  refine aw_icmp_ne (tgt := 44) d_X12_term_9 rfl (fun c4 => ?_) (fun c4 => ?_)
  · have k := k.1 c4
    exact aw_vret rfl d_X12_term_44 ⟨Nat.le_refl _, Nat.le_refl _⟩ ⟨rfl, k⟩
  · have k := k.2 c4
    refine aw_aload_n (i := 0) rfl d_X12_term_12 0 rfl ?_
    refine aw_Vi 1 [] [] d_X12_term_13 (cV_X12_look (d + 0) 0 0) kc_12 (ws_1 w) tw_2206 rfl (rr0 (Nat.le_of_ble_eq_true rfl) (Nat.le_of_ble_eq_true rfl)) (Nat.le_of_ble_eq_true rfl) xs0 k (fun r7 h5 kk => ?_)
    obtain ⟨w6, k⟩ := kk
    refine aw_bipush (v := 42) d_X12_term_16 ib_42 ?_
    refine aw_icmp_ne (tgt := 44) d_X12_term_18 rfl (fun c8 => ?_) (fun c8 => ?_)
    · have k := k.1 c8
      exact aw_vret rfl d_X12_term_44 ⟨Nat.le_refl _, Nat.le_refl _⟩ ⟨rfl, k⟩
    · have k := k.2 c8
      refine aw_aload_n (i := 0) rfl d_X12_term_21 0 rfl ?_
      refine aw_dup d_X12_term_22 rfl ?_
      refine aw_geti (k0 := 33) kc_12 (ws_1 w6) (Nat.le_of_ble_eq_true rfl) tw_1775 d_X12_term_23 rfl ?_
      refine aw_iconst (v := 1) d_X12_term_26 ic_1 ?_
      refine aw_iadd d_X12_term_27 ?_
      refine aw_puti (k0 := 33) kc_12 (ws_1 w6) (Nat.le_of_ble_eq_true rfl) tw_1775 d_X12_term_28 rfl rfl nf_i ?_
      refine aw_aload_n (i := 0) rfl d_X12_term_31 0 rfl ?_
      refine aw_Vv 1 [] [] d_X12_term_32 (cV_X12_atom (d + 51) 0 0) kc_12 (ws_1 w6) tw_2256 rfl (rr0 (Nat.le_of_ble_eq_true rfl) (Nat.le_of_ble_eq_true rfl)) (Nat.le_of_ble_eq_true rfl) xs0 k (fun h9 kk => ?_)
      obtain ⟨w10, k⟩ := kk
      refine aw_aload_n (i := 0) rfl d_X12_term_35 0 rfl ?_
      refine aw_bipush (v := 42) d_X12_term_36 ib_42 ?_
      refine aw_Vv 1 [.int 42] [] d_X12_term_38 (cV_X12_say (d + 0) 0 0) kc_12 (ws_1 w10) tw_2210 rfl (rr0 (Nat.le_of_ble_eq_true rfl) (Nat.le_of_ble_eq_true rfl)) (Nat.le_of_ble_eq_true rfl) xs0 k (fun h12 kk => ?_)
      obtain ⟨w13, k⟩ := kk
      refine aw_goto (tgt := 4) d_X12_term_41 rfl ?_
      exact k
theorem t_X12_sum (d : Nat) (h : Hp_) (w : Wf h)  (K : Hp_ → Prop) (k : Cv (m_X12_term (d + 52) 0 0) [.ref 1] h (fun h1 => Wf h1 ∧ (Ci (m_X12_look (d + 0) 0 0) [.ref 1] h1 (fun r6 h4 => Wf h4 ∧ (AW (m_X12_sum (d + 53) 0 0) 0 0 9 [(0, .ref 1), (1, .int r6)] [] h4 (kV K)))))) : Cv (m_X12_sum (d + 53) 0 0) [.ref 1] h K := by
  refine Ct.of (fun _ _ _ => trivial) rfl (Nat.le_of_ble_eq_true rfl) ?_
  show AW (m_X12_sum (d + 53) 0 0) 0 0 0 [(0, .ref 1)] [] h (kV K)
  refine aw_aload_n (i := 0) rfl d_X12_sum_0 0 rfl ?_
  refine aw_Vv 1 [] [] d_X12_sum_1 (cV_X12_term (d + 52) 0 0) kc_12 (ws_1 w) tw_2252 rfl (rr0 (Nat.le_of_ble_eq_true rfl) (Nat.le_of_ble_eq_true rfl)) (Nat.le_of_ble_eq_true rfl) xs0 k (fun h1 kk => ?_)
  obtain ⟨w2, k⟩ := kk
  refine aw_aload_n (i := 0) rfl d_X12_sum_4 0 rfl ?_
  refine aw_Vi 1 [] [] d_X12_sum_5 (cV_X12_look (d + 0) 0 0) kc_12 (ws_1 w2) tw_2206 rfl (rr0 (Nat.le_of_ble_eq_true rfl) (Nat.le_of_ble_eq_true rfl)) (Nat.le_of_ble_eq_true rfl) xs0 k (fun r6 h4 kk => ?_)
  obtain ⟨w5, k⟩ := kk
  refine aw_istore_n (i := 1) rfl [(0, .ref 1), (1, .int r6)] d_X12_sum_8 (Nat.le_of_ble_eq_true rfl) rfl rfl ?_
  exact k
theorem t_X12_sum_9 (d : Nat) (h : Hp_) (w : Wf h) (x1 : Int32) (K : Hp_ → Prop) (k : (¬ (h_i h 1 34) = (-1) → K h) ∧ ((h_i h 1 34) = (-1) → (x1 = 43 → Cv (m_X12_term (d + 52) 0 0) [.ref 1] (h_im h 1 33 ((h_i h 1 33) + 1)) (fun h9 => Wf h9 ∧ (Cv (m_X12_say (d + 0) 0 0) [.ref 1, .int x1] h9 (fun h12 => Wf h12 ∧ (Ci (m_X12_look (d + 0) 0 0) [.ref 1] h12 (fun r17 h15 => Wf h15 ∧ (AW (m_X12_sum (d + 53) 0 0) 0 0 9 [(0, .ref 1), (1, .int r17)] [] h15 (kV K)))))))) ∧ (¬ x1 = 43 → (¬ x1 = 45 → K h) ∧ (x1 = 45 → Cv (m_X12_term (d + 52) 0 0) [.ref 1] (h_im h 1 33 ((h_i h 1 33) + 1)) (fun h19 => Wf h19 ∧ (Cv (m_X12_say (d + 0) 0 0) [.ref 1, .int x1] h19 (fun h22 => Wf h22 ∧ (Ci (m_X12_look (d + 0) 0 0) [.ref 1] h22 (fun r27 h25 => Wf h25 ∧ (AW (m_X12_sum (d + 53) 0 0) 0 0 9 [(0, .ref 1), (1, .int r27)] [] h25 (kV K))))))))))) : AW (m_X12_sum (d + 53) 0 0) 0 0 9 [(0, .ref 1), (1, .int x1)] [] h (kV K) := by
  refine aw_aload_n (i := 0) rfl d_X12_sum_9 0 rfl ?_
  refine aw_geti (k0 := 34) kc_12 (ws_1 w) (Nat.le_of_ble_eq_true rfl) tw_1776 d_X12_sum_10 rfl ?_
  refine aw_iconst (v := (-1)) d_X12_sum_13 ic_m1 ?_
  refine aw_icmp_ne (tgt := 56) d_X12_sum_14 rfl (fun c7 => ?_) (fun c7 => ?_)
  · have k := k.1 c7
    exact aw_vret rfl d_X12_sum_56 ⟨Nat.le_refl _, Nat.le_refl _⟩ ⟨rfl, k⟩
  · have k := k.2 c7
    refine aw_iload_n (i := 1) rfl d_X12_sum_17 1 rfl ?_
    refine aw_bipush (v := 43) d_X12_sum_18 ib_43 ?_
    refine aw_icmp_eq (tgt := 29) d_X12_sum_20 rfl (fun c8 => ?_) (fun c8 => ?_)
    · have k := k.1 c8
      refine aw_aload_n (i := 0) rfl d_X12_sum_29 0 rfl ?_
      refine aw_dup d_X12_sum_30 rfl ?_
      refine aw_geti (k0 := 33) kc_12 (ws_1 w) (Nat.le_of_ble_eq_true rfl) tw_1775 d_X12_sum_31 rfl ?_
      refine aw_iconst (v := 1) d_X12_sum_34 ic_1 ?_
      refine aw_iadd d_X12_sum_35 ?_
      refine aw_puti (k0 := 33) kc_12 (ws_1 w) (Nat.le_of_ble_eq_true rfl) tw_1775 d_X12_sum_36 rfl rfl nf_i ?_
      refine aw_aload_n (i := 0) rfl d_X12_sum_39 0 rfl ?_
      refine aw_Vv 1 [] [] d_X12_sum_40 (cV_X12_term (d + 52) 0 0) kc_12 (ws_1 w) tw_2252 rfl (rr0 (Nat.le_of_ble_eq_true rfl) (Nat.le_of_ble_eq_true rfl)) (Nat.le_of_ble_eq_true rfl) xs0 k (fun h9 kk => ?_)
      obtain ⟨w10, k⟩ := kk
      refine aw_aload_n (i := 0) rfl d_X12_sum_43 0 rfl ?_
      refine aw_iload_n (i := 1) rfl d_X12_sum_44 1 rfl ?_
      refine aw_Vv 1 [.int x1] [] d_X12_sum_45 (cV_X12_say (d + 0) 0 0) kc_12 (ws_1 w10) tw_2210 rfl (rr0 (Nat.le_of_ble_eq_true rfl) (Nat.le_of_ble_eq_true rfl)) (Nat.le_of_ble_eq_true rfl) xs0 k (fun h12 kk => ?_)
      obtain ⟨w13, k⟩ := kk
      refine aw_aload_n (i := 0) rfl d_X12_sum_48 0 rfl ?_
      refine aw_Vi 1 [] [] d_X12_sum_49 (cV_X12_look (d + 0) 0 0) kc_12 (ws_1 w13) tw_2206 rfl (rr0 (Nat.le_of_ble_eq_true rfl) (Nat.le_of_ble_eq_true rfl)) (Nat.le_of_ble_eq_true rfl) xs0 k (fun r17 h15 kk => ?_)
      obtain ⟨w16, k⟩ := kk
      refine aw_istore_n (i := 1) rfl [(0, .ref 1), (1, .int r17)] d_X12_sum_52 (Nat.le_of_ble_eq_true rfl) rfl rfl ?_
      refine aw_goto (tgt := 9) d_X12_sum_53 rfl ?_
      exact k
    · have k := k.2 c8
      refine aw_iload_n (i := 1) rfl d_X12_sum_23 1 rfl ?_
      refine aw_bipush (v := 45) d_X12_sum_24 ib_45 ?_
      refine aw_icmp_ne (tgt := 56) d_X12_sum_26 rfl (fun c18 => ?_) (fun c18 => ?_)
      · have k := k.1 c18
        exact aw_vret rfl d_X12_sum_56 ⟨Nat.le_refl _, Nat.le_refl _⟩ ⟨rfl, k⟩
      · have k := k.2 c18
        refine aw_aload_n (i := 0) rfl d_X12_sum_29 0 rfl ?_
        refine aw_dup d_X12_sum_30 rfl ?_
        refine aw_geti (k0 := 33) kc_12 (ws_1 w) (Nat.le_of_ble_eq_true rfl) tw_1775 d_X12_sum_31 rfl ?_
        refine aw_iconst (v := 1) d_X12_sum_34 ic_1 ?_
        refine aw_iadd d_X12_sum_35 ?_
        refine aw_puti (k0 := 33) kc_12 (ws_1 w) (Nat.le_of_ble_eq_true rfl) tw_1775 d_X12_sum_36 rfl rfl nf_i ?_
        refine aw_aload_n (i := 0) rfl d_X12_sum_39 0 rfl ?_
        refine aw_Vv 1 [] [] d_X12_sum_40 (cV_X12_term (d + 52) 0 0) kc_12 (ws_1 w) tw_2252 rfl (rr0 (Nat.le_of_ble_eq_true rfl) (Nat.le_of_ble_eq_true rfl)) (Nat.le_of_ble_eq_true rfl) xs0 k (fun h19 kk => ?_)
        obtain ⟨w20, k⟩ := kk
        refine aw_aload_n (i := 0) rfl d_X12_sum_43 0 rfl ?_
        refine aw_iload_n (i := 1) rfl d_X12_sum_44 1 rfl ?_
        refine aw_Vv 1 [.int x1] [] d_X12_sum_45 (cV_X12_say (d + 0) 0 0) kc_12 (ws_1 w20) tw_2210 rfl (rr0 (Nat.le_of_ble_eq_true rfl) (Nat.le_of_ble_eq_true rfl)) (Nat.le_of_ble_eq_true rfl) xs0 k (fun h22 kk => ?_)
        obtain ⟨w23, k⟩ := kk
        refine aw_aload_n (i := 0) rfl d_X12_sum_48 0 rfl ?_
        refine aw_Vi 1 [] [] d_X12_sum_49 (cV_X12_look (d + 0) 0 0) kc_12 (ws_1 w23) tw_2206 rfl (rr0 (Nat.le_of_ble_eq_true rfl) (Nat.le_of_ble_eq_true rfl)) (Nat.le_of_ble_eq_true rfl) xs0 k (fun r27 h25 kk => ?_)
        obtain ⟨w26, k⟩ := kk
        refine aw_istore_n (i := 1) rfl [(0, .ref 1), (1, .int r27)] d_X12_sum_52 (Nat.le_of_ble_eq_true rfl) rfl rfl ?_
        refine aw_goto (tgt := 9) d_X12_sum_53 rfl ?_
        exact k
theorem t_X12_compare (d : Nat) (h : Hp_) (w : Wf h)  (K : Hp_ → Prop) (k : (¬ (h_i h 1 34) = (-1) → Ci (m_X12_isSign (d + 0) 0 0) [.int (-1)] h (fun r4 h2 => Wf h2 ∧ ((¬ r4 = 0 → Cv (m_X12_sum (d + 53) 0 0) [.ref 1] (h_im h2 1 33 ((h_i h2 1 33) + 1)) (fun h6 => Wf h6 ∧ (Cv (m_X12_say (d + 0) 0 0) [.ref 1, .int (-1)] h6 (fun h9 => Wf h9 ∧ (K h9))))) ∧ (r4 = 0 → Cv (m_X12_bad (d + 0) 0 0) [.ref 1] h2 (fun h12 => Wf h12 ∧ (K h12)))))) ∧ ((h_i h 1 34) = (-1) → Ci (m_X12_look (d + 0) 0 0) [.ref 1] h (fun r17 h15 => Wf h15 ∧ (Ci (m_X12_isSign (d + 0) 0 0) [.int r17] h15 (fun r20 h18 => Wf h18 ∧ ((¬ r20 = 0 → Cv (m_X12_sum (d + 53) 0 0) [.ref 1] (h_im h18 1 33 ((h_i h18 1 33) + 1)) (fun h22 => Wf h22 ∧ (Cv (m_X12_say (d + 0) 0 0) [.ref 1, .int r17] h22 (fun h25 => Wf h25 ∧ (K h25))))) ∧ (r20 = 0 → Cv (m_X12_bad (d + 0) 0 0) [.ref 1] h18 (fun h28 => Wf h28 ∧ (K h28))))))))) : Cv (m_X12_compare (d + 54) 0 0) [.ref 1] h K := by
  refine Ct.of (fun _ _ _ => trivial) rfl (Nat.le_of_ble_eq_true rfl) ?_
  show AW (m_X12_compare (d + 54) 0 0) 0 0 0 [(0, .ref 1)] [] h (kV K)
  refine aw_aload_n (i := 0) rfl d_X12_compare_0 0 rfl ?_
  refine aw_geti (k0 := 34) kc_12 (ws_1 w) (Nat.le_of_ble_eq_true rfl) tw_1776 d_X12_compare_1 rfl ?_
  refine aw_iconst (v := (-1)) d_X12_compare_4 ic_m1 ?_
  refine aw_icmp_ne (tgt := 15) d_X12_compare_5 rfl (fun c1 => ?_) (fun c1 => ?_)
  · have k := k.1 c1
    refine aw_iconst (v := (-1)) d_X12_compare_15 ic_m1 ?_
    refine aw_istore_n (i := 1) rfl [(0, .ref 1), (1, .int (-1))] d_X12_compare_16 (Nat.le_of_ble_eq_true rfl) rfl rfl ?_
    refine aw_iload_n (i := 1) rfl d_X12_compare_17 1 rfl ?_
    refine aw_Si [.int (-1)] [] d_X12_compare_18 (cS_X12_isSign (d + 0) 0 0) tw_2245 rfl (rr0 (Nat.le_of_ble_eq_true rfl) (Nat.le_of_ble_eq_true rfl)) (Nat.le_of_ble_eq_true rfl) xs0 k (fun r4 h2 kk => ?_)
    obtain ⟨w3, k⟩ := kk
    refine aw_if_ne (tgt := 29) d_X12_compare_21 rfl (fun c5 => ?_) (fun c5 => ?_)
    · have k := k.1 c5
      refine aw_aload_n (i := 0) rfl d_X12_compare_29 0 rfl ?_
      refine aw_dup d_X12_compare_30 rfl ?_
      refine aw_geti (k0 := 33) kc_12 (ws_1 w3) (Nat.le_of_ble_eq_true rfl) tw_1775 d_X12_compare_31 rfl ?_
      refine aw_iconst (v := 1) d_X12_compare_34 ic_1 ?_
      refine aw_iadd d_X12_compare_35 ?_
      refine aw_puti (k0 := 33) kc_12 (ws_1 w3) (Nat.le_of_ble_eq_true rfl) tw_1775 d_X12_compare_36 rfl rfl nf_i ?_
      refine aw_aload_n (i := 0) rfl d_X12_compare_39 0 rfl ?_
      refine aw_Vv 1 [] [] d_X12_compare_40 (cV_X12_sum (d + 53) 0 0) kc_12 (ws_1 w3) tw_2248 rfl (rr0 (Nat.le_of_ble_eq_true rfl) (Nat.le_of_ble_eq_true rfl)) (Nat.le_of_ble_eq_true rfl) xs0 k (fun h6 kk => ?_)
      obtain ⟨w7, k⟩ := kk
      refine aw_aload_n (i := 0) rfl d_X12_compare_43 0 rfl ?_
      refine aw_iload_n (i := 1) rfl d_X12_compare_44 1 rfl ?_
      refine aw_Vv 1 [.int (-1)] [] d_X12_compare_45 (cV_X12_say (d + 0) 0 0) kc_12 (ws_1 w7) tw_2210 rfl (rr0 (Nat.le_of_ble_eq_true rfl) (Nat.le_of_ble_eq_true rfl)) (Nat.le_of_ble_eq_true rfl) xs0 k (fun h9 kk => ?_)
      obtain ⟨w10, k⟩ := kk
      exact aw_vret rfl d_X12_compare_48 ⟨Nat.le_refl _, Nat.le_refl _⟩ ⟨rfl, k⟩
    · have k := k.2 c5
      refine aw_aload_n (i := 0) rfl d_X12_compare_24 0 rfl ?_
      refine aw_Vv 1 [] [] d_X12_compare_25 (cV_X12_bad (d + 0) 0 0) kc_12 (ws_1 w3) tw_2225 rfl (rr0 (Nat.le_of_ble_eq_true rfl) (Nat.le_of_ble_eq_true rfl)) (Nat.le_of_ble_eq_true rfl) xs0 k (fun h12 kk => ?_)
      obtain ⟨w13, k⟩ := kk
      exact aw_vret rfl d_X12_compare_28 ⟨Nat.le_refl _, Nat.le_refl _⟩ ⟨rfl, k⟩
  · have k := k.2 c1
    refine aw_aload_n (i := 0) rfl d_X12_compare_8 0 rfl ?_
    refine aw_Vi 1 [] [] d_X12_compare_9 (cV_X12_look (d + 0) 0 0) kc_12 (ws_1 w) tw_2206 rfl (rr0 (Nat.le_of_ble_eq_true rfl) (Nat.le_of_ble_eq_true rfl)) (Nat.le_of_ble_eq_true rfl) xs0 k (fun r17 h15 kk => ?_)
    obtain ⟨w16, k⟩ := kk
    refine aw_goto (tgt := 16) d_X12_compare_12 rfl ?_
    refine aw_istore_n (i := 1) rfl [(0, .ref 1), (1, .int r17)] d_X12_compare_16 (Nat.le_of_ble_eq_true rfl) rfl rfl ?_
    refine aw_iload_n (i := 1) rfl d_X12_compare_17 1 rfl ?_
    refine aw_Si [.int r17] [] d_X12_compare_18 (cS_X12_isSign (d + 0) 0 0) tw_2245 rfl (rr0 (Nat.le_of_ble_eq_true rfl) (Nat.le_of_ble_eq_true rfl)) (Nat.le_of_ble_eq_true rfl) xs0 k (fun r20 h18 kk => ?_)
    obtain ⟨w19, k⟩ := kk
    refine aw_if_ne (tgt := 29) d_X12_compare_21 rfl (fun c21 => ?_) (fun c21 => ?_)
    · have k := k.1 c21
      refine aw_aload_n (i := 0) rfl d_X12_compare_29 0 rfl ?_
      refine aw_dup d_X12_compare_30 rfl ?_
      refine aw_geti (k0 := 33) kc_12 (ws_1 w19) (Nat.le_of_ble_eq_true rfl) tw_1775 d_X12_compare_31 rfl ?_
      refine aw_iconst (v := 1) d_X12_compare_34 ic_1 ?_
      refine aw_iadd d_X12_compare_35 ?_
      refine aw_puti (k0 := 33) kc_12 (ws_1 w19) (Nat.le_of_ble_eq_true rfl) tw_1775 d_X12_compare_36 rfl rfl nf_i ?_
      refine aw_aload_n (i := 0) rfl d_X12_compare_39 0 rfl ?_
      refine aw_Vv 1 [] [] d_X12_compare_40 (cV_X12_sum (d + 53) 0 0) kc_12 (ws_1 w19) tw_2248 rfl (rr0 (Nat.le_of_ble_eq_true rfl) (Nat.le_of_ble_eq_true rfl)) (Nat.le_of_ble_eq_true rfl) xs0 k (fun h22 kk => ?_)
      obtain ⟨w23, k⟩ := kk
      refine aw_aload_n (i := 0) rfl d_X12_compare_43 0 rfl ?_
      refine aw_iload_n (i := 1) rfl d_X12_compare_44 1 rfl ?_
      refine aw_Vv 1 [.int r17] [] d_X12_compare_45 (cV_X12_say (d + 0) 0 0) kc_12 (ws_1 w23) tw_2210 rfl (rr0 (Nat.le_of_ble_eq_true rfl) (Nat.le_of_ble_eq_true rfl)) (Nat.le_of_ble_eq_true rfl) xs0 k (fun h25 kk => ?_)
      obtain ⟨w26, k⟩ := kk
      exact aw_vret rfl d_X12_compare_48 ⟨Nat.le_refl _, Nat.le_refl _⟩ ⟨rfl, k⟩
    · have k := k.2 c21
      refine aw_aload_n (i := 0) rfl d_X12_compare_24 0 rfl ?_
      refine aw_Vv 1 [] [] d_X12_compare_25 (cV_X12_bad (d + 0) 0 0) kc_12 (ws_1 w19) tw_2225 rfl (rr0 (Nat.le_of_ble_eq_true rfl) (Nat.le_of_ble_eq_true rfl)) (Nat.le_of_ble_eq_true rfl) xs0 k (fun h28 kk => ?_)
      obtain ⟨w29, k⟩ := kk
      exact aw_vret rfl d_X12_compare_28 ⟨Nat.le_refl _, Nat.le_refl _⟩ ⟨rfl, k⟩
theorem t_X12_unit (d : Nat) (h : Hp_) (w : Wf h)  (K : Hp_ → Prop) (k : Ci (m_X12_look (d + 0) 0 0) [.ref 1] h (fun r3 h1 => Wf h1 ∧ ((¬ r3 = 33 → (¬ r3 = 40 → Cv (m_X12_sum (d + 53) 0 0) [.ref 1] h1 (fun h6 => Wf h6 ∧ (Cv (m_X12_compare (d + 54) 0 0) [.ref 1] h6 (fun h9 => Wf h9 ∧ (K h9))))) ∧ (r3 = 40 → Ci (m_X12_opens (d + 1) 0 0) [.ref 1] h1 (fun r14 h12 => Wf h12 ∧ ((r14 = 0 → K h12) ∧ (¬ r14 = 0 → Cv (m_X12_condition (d + 57) 0 0) [.ref 1, .int 0] h12 (fun h16 => Wf h16 ∧ (Cv (m_X12_closes (d + 1) 0 0) [.ref 1, .int 41] h16 (fun h19 => Wf h19 ∧ (K h19))))))))) ∧ (r3 = 33 → Ci (m_X12_opens (d + 1) 0 0) [.ref 1] h1 (fun r24 h22 => Wf h22 ∧ ((r24 = 0 → K h22) ∧ (¬ r24 = 0 → Cv (m_X12_unit (d + 55) 0 0) [.ref 1] h22 (fun h26 => Wf h26 ∧ (Cv (m_X12_say (d + 0) 0 0) [.ref 1, .int 33] (h_im h26 1 35 ((h_i h26 1 35) - 1)) (fun h29 => Wf h29 ∧ (K h29))))))))))) : Cv (m_X12_unit (d + 65) 0 0) [.ref 1] h K := by
  refine Ct.of (fun _ _ _ => trivial) rfl (Nat.le_of_ble_eq_true rfl) ?_
  show AW (m_X12_unit (d + 65) 0 0) 0 0 0 [(0, .ref 1)] [] h (kV K)
  refine aw_aload_n (i := 0) rfl d_X12_unit_0 0 rfl ?_
  refine aw_Vi 1 [] [] d_X12_unit_1 (cV_X12_look (d + 0) 0 0) kc_12 (ws_1 w) tw_2206 rfl (rr0 (Nat.le_of_ble_eq_true rfl) (Nat.le_of_ble_eq_true rfl)) (Nat.le_of_ble_eq_true rfl) xs0 k (fun r3 h1 kk => ?_)
  obtain ⟨w2, k⟩ := kk
  refine aw_istore_n (i := 1) rfl [(0, .ref 1), (1, .int r3)] d_X12_unit_4 (Nat.le_of_ble_eq_true rfl) rfl rfl ?_
  refine aw_iload_n (i := 1) rfl d_X12_unit_5 1 rfl ?_
  refine aw_bipush (v := 33) d_X12_unit_6 ib_33 ?_
  refine aw_icmp_ne (tgt := 41) d_X12_unit_8 rfl (fun c4 => ?_) (fun c4 => ?_)
  · have k := k.1 c4
    refine aw_iload_n (i := 1) rfl d_X12_unit_41 1 rfl ?_
    refine aw_bipush (v := 40) d_X12_unit_42 ib_40 ?_
    refine aw_icmp_ne (tgt := 68) d_X12_unit_44 rfl (fun c5 => ?_) (fun c5 => ?_)
    · have k := k.1 c5
      refine aw_aload_n (i := 0) rfl d_X12_unit_68 0 rfl ?_
      refine aw_Vv 1 [] [] d_X12_unit_69 (cV_X12_sum (d + 53) 0 0) kc_12 (ws_1 w2) tw_2248 rfl (rr0 (Nat.le_of_ble_eq_true rfl) (Nat.le_of_ble_eq_true rfl)) (Nat.le_of_ble_eq_true rfl) xs0 k (fun h6 kk => ?_)
      obtain ⟨w7, k⟩ := kk
      refine aw_aload_n (i := 0) rfl d_X12_unit_72 0 rfl ?_
      refine aw_Vv 1 [] [] d_X12_unit_73 (cV_X12_compare (d + 54) 0 0) kc_12 (ws_1 w7) tw_2241 rfl (rr0 (Nat.le_of_ble_eq_true rfl) (Nat.le_of_ble_eq_true rfl)) (Nat.le_of_ble_eq_true rfl) xs0 k (fun h9 kk => ?_)
      obtain ⟨w10, k⟩ := kk
      exact aw_vret rfl d_X12_unit_76 ⟨Nat.le_refl _, Nat.le_refl _⟩ ⟨rfl, k⟩
    · have k := k.2 c5
      refine aw_aload_n (i := 0) rfl d_X12_unit_47 0 rfl ?_
      refine aw_Vi 1 [] [] d_X12_unit_48 (cV_X12_opens (d + 1) 0 0) kc_12 (ws_1 w2) tw_2260 rfl (rr0 (Nat.le_of_ble_eq_true rfl) (Nat.le_of_ble_eq_true rfl)) (Nat.le_of_ble_eq_true rfl) xs0 k (fun r14 h12 kk => ?_)
      obtain ⟨w13, k⟩ := kk
      refine aw_if_eq (tgt := 76) d_X12_unit_51 rfl (fun c15 => ?_) (fun c15 => ?_)
      · have k := k.1 c15
        exact aw_vret rfl d_X12_unit_76 ⟨Nat.le_refl _, Nat.le_refl _⟩ ⟨rfl, k⟩
      · have k := k.2 c15
        refine aw_aload_n (i := 0) rfl d_X12_unit_54 0 rfl ?_
        refine aw_iconst (v := 0) d_X12_unit_55 ic_0 ?_
        refine aw_Vv 1 [.int 0] [] d_X12_unit_56 (cV_X12_condition (d + 57) 0 0) kc_12 (ws_1 w13) tw_2233 rfl (rr0 (Nat.le_of_ble_eq_true rfl) (Nat.le_of_ble_eq_true rfl)) (Nat.le_of_ble_eq_true rfl) xs0 k (fun h16 kk => ?_)
        obtain ⟨w17, k⟩ := kk
        refine aw_aload_n (i := 0) rfl d_X12_unit_59 0 rfl ?_
        refine aw_bipush (v := 41) d_X12_unit_60 ib_41 ?_
        refine aw_Vv 1 [.int 41] [] d_X12_unit_62 (cV_X12_closes (d + 1) 0 0) kc_12 (ws_1 w17) tw_2264 rfl (rr0 (Nat.le_of_ble_eq_true rfl) (Nat.le_of_ble_eq_true rfl)) (Nat.le_of_ble_eq_true rfl) xs0 k (fun h19 kk => ?_)
        obtain ⟨w20, k⟩ := kk
        refine aw_goto (tgt := 76) d_X12_unit_65 rfl ?_
        exact aw_vret rfl d_X12_unit_76 ⟨Nat.le_refl _, Nat.le_refl _⟩ ⟨rfl, k⟩
  · have k := k.2 c4
    refine aw_aload_n (i := 0) rfl d_X12_unit_11 0 rfl ?_
    refine aw_Vi 1 [] [] d_X12_unit_12 (cV_X12_opens (d + 1) 0 0) kc_12 (ws_1 w2) tw_2260 rfl (rr0 (Nat.le_of_ble_eq_true rfl) (Nat.le_of_ble_eq_true rfl)) (Nat.le_of_ble_eq_true rfl) xs0 k (fun r24 h22 kk => ?_)
    obtain ⟨w23, k⟩ := kk
    refine aw_if_eq (tgt := 76) d_X12_unit_15 rfl (fun c25 => ?_) (fun c25 => ?_)
    · have k := k.1 c25
      exact aw_vret rfl d_X12_unit_76 ⟨Nat.le_refl _, Nat.le_refl _⟩ ⟨rfl, k⟩
    · have k := k.2 c25
      refine aw_aload_n (i := 0) rfl d_X12_unit_18 0 rfl ?_
      refine aw_Vv 1 [] [] d_X12_unit_19 (cV_X12_unit (d + 55) 0 0) kc_12 (ws_1 w23) tw_2271 rfl (rr0 (Nat.le_of_ble_eq_true rfl) (Nat.le_of_ble_eq_true rfl)) (Nat.le_of_ble_eq_true rfl) xs0 k (fun h26 kk => ?_)
      obtain ⟨w27, k⟩ := kk
      refine aw_aload_n (i := 0) rfl d_X12_unit_22 0 rfl ?_
      refine aw_dup d_X12_unit_23 rfl ?_
      refine aw_geti (k0 := 35) kc_12 (ws_1 w27) (Nat.le_of_ble_eq_true rfl) tw_1777 d_X12_unit_24 rfl ?_
      refine aw_iconst (v := 1) d_X12_unit_27 ic_1 ?_
      refine aw_isub d_X12_unit_28 ?_
      refine aw_puti (k0 := 35) kc_12 (ws_1 w27) (Nat.le_of_ble_eq_true rfl) tw_1777 d_X12_unit_29 rfl rfl nf_i ?_
      refine aw_aload_n (i := 0) rfl d_X12_unit_32 0 rfl ?_
      refine aw_bipush (v := 33) d_X12_unit_33 ib_33 ?_
      refine aw_Vv 1 [.int 33] [] d_X12_unit_35 (cV_X12_say (d + 0) 0 0) kc_12 (ws_1 w27) tw_2210 rfl (rr0 (Nat.le_of_ble_eq_true rfl) (Nat.le_of_ble_eq_true rfl)) (Nat.le_of_ble_eq_true rfl) xs0 k (fun h29 kk => ?_)
      obtain ⟨w30, k⟩ := kk
      refine aw_goto (tgt := 76) d_X12_unit_38 rfl ?_
      exact aw_vret rfl d_X12_unit_76 ⟨Nat.le_refl _, Nat.le_refl _⟩ ⟨rfl, k⟩
theorem t_X12_part (d : Nat) (h : Hp_) (w : Wf h) (x1 : Int32) (K : Hp_ → Prop) (k : (x1 = 0 → Cv (m_X12_unit (d + 55) 0 0) [.ref 1] h (fun h2 => Wf h2 ∧ (AW (m_X12_part (d + 56) 0 0) 0 0 15 [(0, .ref 1)] [] h2 (kV K)))) ∧ (¬ x1 = 0 → Cv (m_X12_compare (d + 54) 0 0) [.ref 1] h (fun h5 => Wf h5 ∧ (AW (m_X12_part (d + 56) 0 0) 0 0 15 [(0, .ref 1)] [] h5 (kV K))))) : Cv (m_X12_part (d + 56) 0 0) [.ref 1, .int x1] h K := by
  refine Ct.of (fun _ _ _ => trivial) rfl (Nat.le_of_ble_eq_true rfl) ?_
  show AW (m_X12_part (d + 56) 0 0) 0 0 0 [(0, .ref 1), (1, .int x1)] [] h (kV K)
  refine aw_iload_n (i := 1) rfl d_X12_part_0 1 rfl ?_
  refine aw_if_eq (tgt := 11) d_X12_part_1 rfl (fun c1 => ?_) (fun c1 => ?_)
  · have k := k.1 c1
    refine aw_aload_n (i := 0) rfl d_X12_part_11 0 rfl ?_
    refine aw_Vv 1 [] [] d_X12_part_12 (cV_X12_unit (d + 55) 0 0) kc_12 (ws_1 w) tw_2271 rfl (rr0 (Nat.le_of_ble_eq_true rfl) (Nat.le_of_ble_eq_true rfl)) (Nat.le_of_ble_eq_true rfl) xs0 k (fun h2 kk => ?_)
    obtain ⟨w3, k⟩ := kk
    exact aw_lvp [0] [(0, .ref 1)] rfl k
  · have k := k.2 c1
    refine aw_aload_n (i := 0) rfl d_X12_part_4 0 rfl ?_
    refine aw_Vv 1 [] [] d_X12_part_5 (cV_X12_compare (d + 54) 0 0) kc_12 (ws_1 w) tw_2241 rfl (rr0 (Nat.le_of_ble_eq_true rfl) (Nat.le_of_ble_eq_true rfl)) (Nat.le_of_ble_eq_true rfl) xs0 k (fun h5 kk => ?_)
    obtain ⟨w6, k⟩ := kk
    refine aw_goto (tgt := 15) d_X12_part_8 rfl ?_
    exact aw_lvp [0] [(0, .ref 1)] rfl k
theorem t_X12_part_15 (d : Nat) (h : Hp_) (w : Wf h)  (K : Hp_ → Prop) (k : (¬ (h_i h 1 34) = (-1) → K h) ∧ ((h_i h 1 34) = (-1) → Ci (m_X12_look (d + 0) 0 0) [.ref 1] h (fun r11 h9 => Wf h9 ∧ ((¬ r11 = 38 → K h9) ∧ (r11 = 38 → Cv (m_X12_unit (d + 55) 0 0) [.ref 1] (h_im h9 1 33 ((h_i h9 1 33) + 1)) (fun h13 => Wf h13 ∧ (Cv (m_X12_say (d + 0) 0 0) [.ref 1, .int 38] h13 (fun h16 => Wf h16 ∧ (AW (m_X12_part (d + 56) 0 0) 0 0 15 [(0, .ref 1)] [] h16 (kV K)))))))))) : AW (m_X12_part (d + 56) 0 0) 0 0 15 [(0, .ref 1)] [] h (kV K) := by
  refine aw_aload_n (i := 0) rfl d_X12_part_15 0 rfl ?_
  refine aw_geti (k0 := 34) kc_12 (ws_1 w) (Nat.le_of_ble_eq_true rfl) tw_1776 d_X12_part_16 rfl ?_
  refine aw_iconst (v := (-1)) d_X12_part_19 ic_m1 ?_
  refine aw_icmp_ne (tgt := 55) d_X12_part_20 rfl (fun c8 => ?_) (fun c8 => ?_)
  · have k := k.1 c8
    exact aw_vret rfl d_X12_part_55 ⟨Nat.le_refl _, Nat.le_refl _⟩ ⟨rfl, k⟩
  · have k := k.2 c8
    refine aw_aload_n (i := 0) rfl d_X12_part_23 0 rfl ?_
    refine aw_Vi 1 [] [] d_X12_part_24 (cV_X12_look (d + 0) 0 0) kc_12 (ws_1 w) tw_2206 rfl (rr0 (Nat.le_of_ble_eq_true rfl) (Nat.le_of_ble_eq_true rfl)) (Nat.le_of_ble_eq_true rfl) xs0 k (fun r11 h9 kk => ?_)
    obtain ⟨w10, k⟩ := kk
    refine aw_bipush (v := 38) d_X12_part_27 ib_38 ?_
    refine aw_icmp_ne (tgt := 55) d_X12_part_29 rfl (fun c12 => ?_) (fun c12 => ?_)
    · have k := k.1 c12
      exact aw_vret rfl d_X12_part_55 ⟨Nat.le_refl _, Nat.le_refl _⟩ ⟨rfl, k⟩
    · have k := k.2 c12
      refine aw_aload_n (i := 0) rfl d_X12_part_32 0 rfl ?_
      refine aw_dup d_X12_part_33 rfl ?_
      refine aw_geti (k0 := 33) kc_12 (ws_1 w10) (Nat.le_of_ble_eq_true rfl) tw_1775 d_X12_part_34 rfl ?_
      refine aw_iconst (v := 1) d_X12_part_37 ic_1 ?_
      refine aw_iadd d_X12_part_38 ?_
      refine aw_puti (k0 := 33) kc_12 (ws_1 w10) (Nat.le_of_ble_eq_true rfl) tw_1775 d_X12_part_39 rfl rfl nf_i ?_
      refine aw_aload_n (i := 0) rfl d_X12_part_42 0 rfl ?_
      refine aw_Vv 1 [] [] d_X12_part_43 (cV_X12_unit (d + 55) 0 0) kc_12 (ws_1 w10) tw_2271 rfl (rr0 (Nat.le_of_ble_eq_true rfl) (Nat.le_of_ble_eq_true rfl)) (Nat.le_of_ble_eq_true rfl) xs0 k (fun h13 kk => ?_)
      obtain ⟨w14, k⟩ := kk
      refine aw_aload_n (i := 0) rfl d_X12_part_46 0 rfl ?_
      refine aw_bipush (v := 38) d_X12_part_47 ib_38 ?_
      refine aw_Vv 1 [.int 38] [] d_X12_part_49 (cV_X12_say (d + 0) 0 0) kc_12 (ws_1 w14) tw_2210 rfl (rr0 (Nat.le_of_ble_eq_true rfl) (Nat.le_of_ble_eq_true rfl)) (Nat.le_of_ble_eq_true rfl) xs0 k (fun h16 kk => ?_)
      obtain ⟨w17, k⟩ := kk
      refine aw_goto (tgt := 15) d_X12_part_52 rfl ?_
      exact k
theorem t_X12_condition (d : Nat) (h : Hp_) (w : Wf h) (x1 : Int32) (K : Hp_ → Prop) (k : Cv (m_X12_part (d + 56) 0 0) [.ref 1, .int x1] h (fun h1 => Wf h1 ∧ (AW (m_X12_condition (d + 57) 0 0) 0 0 5 [(0, .ref 1)] [] h1 (kV K)))) : Cv (m_X12_condition (d + 57) 0 0) [.ref 1, .int x1] h K := by
  refine Ct.of (fun _ _ _ => trivial) rfl (Nat.le_of_ble_eq_true rfl) ?_
  show AW (m_X12_condition (d + 57) 0 0) 0 0 0 [(0, .ref 1), (1, .int x1)] [] h (kV K)
  refine aw_aload_n (i := 0) rfl d_X12_condition_0 0 rfl ?_
  refine aw_iload_n (i := 1) rfl d_X12_condition_1 1 rfl ?_
  refine aw_Vv 1 [.int x1] [] d_X12_condition_2 (cV_X12_part (d + 56) 0 0) kc_12 (ws_1 w) tw_2237 rfl (rr0 (Nat.le_of_ble_eq_true rfl) (Nat.le_of_ble_eq_true rfl)) (Nat.le_of_ble_eq_true rfl) xs0 k (fun h1 kk => ?_)
  obtain ⟨w2, k⟩ := kk
  exact aw_lvp [0] [(0, .ref 1)] rfl k
theorem t_X12_condition_5 (d : Nat) (h : Hp_) (w : Wf h)  (K : Hp_ → Prop) (k : (¬ (h_i h 1 34) = (-1) → K h) ∧ ((h_i h 1 34) = (-1) → Ci (m_X12_look (d + 0) 0 0) [.ref 1] h (fun r7 h5 => Wf h5 ∧ ((¬ r7 = 124 → K h5) ∧ (r7 = 124 → Cv (m_X12_part (d + 56) 0 0) [.ref 1, .int 0] (h_im h5 1 33 ((h_i h5 1 33) + 1)) (fun h9 => Wf h9 ∧ (Cv (m_X12_say (d + 0) 0 0) [.ref 1, .int 124] h9 (fun h12 => Wf h12 ∧ (AW (m_X12_condition (d + 57) 0 0) 0 0 5 [(0, .ref 1)] [] h12 (kV K)))))))))) : AW (m_X12_condition (d + 57) 0 0) 0 0 5 [(0, .ref 1)] [] h (kV K) := by
  refine aw_aload_n (i := 0) rfl d_X12_condition_5 0 rfl ?_
  refine aw_geti (k0 := 34) kc_12 (ws_1 w) (Nat.le_of_ble_eq_true rfl) tw_1776 d_X12_condition_6 rfl ?_
  refine aw_iconst (v := (-1)) d_X12_condition_9 ic_m1 ?_
  refine aw_icmp_ne (tgt := 46) d_X12_condition_10 rfl (fun c4 => ?_) (fun c4 => ?_)
  · have k := k.1 c4
    exact aw_vret rfl d_X12_condition_46 ⟨Nat.le_refl _, Nat.le_refl _⟩ ⟨rfl, k⟩
  · have k := k.2 c4
    refine aw_aload_n (i := 0) rfl d_X12_condition_13 0 rfl ?_
    refine aw_Vi 1 [] [] d_X12_condition_14 (cV_X12_look (d + 0) 0 0) kc_12 (ws_1 w) tw_2206 rfl (rr0 (Nat.le_of_ble_eq_true rfl) (Nat.le_of_ble_eq_true rfl)) (Nat.le_of_ble_eq_true rfl) xs0 k (fun r7 h5 kk => ?_)
    obtain ⟨w6, k⟩ := kk
    refine aw_bipush (v := 124) d_X12_condition_17 ib_124 ?_
    refine aw_icmp_ne (tgt := 46) d_X12_condition_19 rfl (fun c8 => ?_) (fun c8 => ?_)
    · have k := k.1 c8
      exact aw_vret rfl d_X12_condition_46 ⟨Nat.le_refl _, Nat.le_refl _⟩ ⟨rfl, k⟩
    · have k := k.2 c8
      refine aw_aload_n (i := 0) rfl d_X12_condition_22 0 rfl ?_
      refine aw_dup d_X12_condition_23 rfl ?_
      refine aw_geti (k0 := 33) kc_12 (ws_1 w6) (Nat.le_of_ble_eq_true rfl) tw_1775 d_X12_condition_24 rfl ?_
      refine aw_iconst (v := 1) d_X12_condition_27 ic_1 ?_
      refine aw_iadd d_X12_condition_28 ?_
      refine aw_puti (k0 := 33) kc_12 (ws_1 w6) (Nat.le_of_ble_eq_true rfl) tw_1775 d_X12_condition_29 rfl rfl nf_i ?_
      refine aw_aload_n (i := 0) rfl d_X12_condition_32 0 rfl ?_
      refine aw_iconst (v := 0) d_X12_condition_33 ic_0 ?_
      refine aw_Vv 1 [.int 0] [] d_X12_condition_34 (cV_X12_part (d + 56) 0 0) kc_12 (ws_1 w6) tw_2237 rfl (rr0 (Nat.le_of_ble_eq_true rfl) (Nat.le_of_ble_eq_true rfl)) (Nat.le_of_ble_eq_true rfl) xs0 k (fun h9 kk => ?_)
      obtain ⟨w10, k⟩ := kk
      refine aw_aload_n (i := 0) rfl d_X12_condition_37 0 rfl ?_
      refine aw_bipush (v := 124) d_X12_condition_38 ib_124 ?_
      refine aw_Vv 1 [.int 124] [] d_X12_condition_40 (cV_X12_say (d + 0) 0 0) kc_12 (ws_1 w10) tw_2210 rfl (rr0 (Nat.le_of_ble_eq_true rfl) (Nat.le_of_ble_eq_true rfl)) (Nat.le_of_ble_eq_true rfl) xs0 k (fun h12 kk => ?_)
      obtain ⟨w13, k⟩ := kk
      refine aw_goto (tgt := 5) d_X12_condition_43 rfl ?_
      exact k
