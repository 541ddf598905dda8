theorem t_X12_look (d : Nat) (h : Hp_) (w : Wf h)  (K : Int32 → Hp_ → Prop) (k : ((h_i h 1 32) ≤ (h_i h 1 33) → ((h_i h 1 32) ≤ (h_i h 1 33) → K (-1) h) ∧ (¬ (h_i h 1 32) ≤ (h_i h 1 33) → vp_in (h_i h 1 33) 160 ∧ (K (h_i h 225 ((h_i h 1 33) : Int32).toNatClampNeg) h))) ∧ (¬ (h_i h 1 32) ≤ (h_i h 1 33) → vp_in (h_i h 1 33) 160 ∧ ((¬ (h_i h 225 ((h_i h 1 33) : Int32).toNatClampNeg) = 32 → ((h_i h 1 32) ≤ (h_i h 1 33) → K (-1) h) ∧ (¬ (h_i h 1 32) ≤ (h_i h 1 33) → vp_in (h_i h 1 33) 160 ∧ (K (h_i h 225 ((h_i h 1 33) : Int32).toNatClampNeg) h))) ∧ ((h_i h 225 ((h_i h 1 33) : Int32).toNatClampNeg) = 32 → AW (m_X12_look (d + 0) 0 0) 0 0 0 [(0, .ref 1)] [] (h_im h 1 33 ((h_i h 1 33) + 1)) (kI K))))) : Ci (m_X12_look (d + 0) 0 0) [.ref 1] h K := by
  refine Ct.of (fun _ _ _ => trivial) rfl (Nat.le_of_ble_eq_true rfl) ?_
  show AW (m_X12_look (d + 0) 0 0) 0 0 0 [(0, .ref 1)] [] h (kI K)
  refine aw_aload_n (i := 0) rfl d_X12_look_0 0 rfl ?_
  refine aw_geti (k0 := 33) kc_12 (ws_1 w) (Nat.le_of_ble_eq_true rfl) tw_1775 d_X12_look_1 rfl ?_
  refine aw_aload_n (i := 0) rfl d_X12_look_4 0 rfl ?_
  refine aw_geti (k0 := 32) kc_12 (ws_1 w) (Nat.le_of_ble_eq_true rfl) tw_1774 d_X12_look_5 rfl ?_
  refine aw_icmp_ge (tgt := 38) d_X12_look_8 rfl (fun c1 => ?_) (fun c1 => ?_)
  · have k := k.1 c1
    refine aw_aload_n (i := 0) rfl d_X12_look_38 0 rfl ?_
    refine aw_geti (k0 := 33) kc_12 (ws_1 w) (Nat.le_of_ble_eq_true rfl) tw_1775 d_X12_look_39 rfl ?_
    refine aw_aload_n (i := 0) rfl d_X12_look_42 0 rfl ?_
    refine aw_geti (k0 := 32) kc_12 (ws_1 w) (Nat.le_of_ble_eq_true rfl) tw_1774 d_X12_look_43 rfl ?_
    refine aw_icmp_ge (tgt := 61) d_X12_look_46 rfl (fun c2 => ?_) (fun c2 => ?_)
    · have k := k.1 c2
      refine aw_iconst (v := (-1)) d_X12_look_61 ic_m1 ?_
      exact aw_iret rfl d_X12_look_62 ⟨Nat.le_refl _, Nat.le_refl _⟩ ⟨_, rfl, k⟩
    · have k := k.2 c2
      refine aw_aload_n (i := 0) rfl d_X12_look_49 0 rfl ?_
      refine aw_getr (k0 := 30) kc_12 (ws_1 w) (Nat.le_of_ble_eq_true rfl) tw_1772 d_X12_look_50 rfl (wr_1_30 w) ?_
      refine aw_aload_n (i := 0) rfl d_X12_look_53 0 rfl ?_
      refine aw_geti (k0 := 33) kc_12 (ws_1 w) (Nat.le_of_ble_eq_true rfl) tw_1775 d_X12_look_54 rfl ?_
      obtain ⟨b3, k⟩ := k
      refine aw_iald (ws_225 w) b3 d_X12_look_57 ?_
      refine aw_goto (tgt := 62) d_X12_look_58 rfl ?_
      exact aw_iret rfl d_X12_look_62 ⟨Nat.le_refl _, Nat.le_refl _⟩ ⟨_, rfl, k⟩
  · have k := k.2 c1
    refine aw_aload_n (i := 0) rfl d_X12_look_11 0 rfl ?_
    refine aw_getr (k0 := 30) kc_12 (ws_1 w) (Nat.le_of_ble_eq_true rfl) tw_1772 d_X12_look_12 rfl (wr_1_30 w) ?_
    refine aw_aload_n (i := 0) rfl d_X12_look_15 0 rfl ?_
    refine aw_geti (k0 := 33) kc_12 (ws_1 w) (Nat.le_of_ble_eq_true rfl) tw_1775 d_X12_look_16 rfl ?_
    obtain ⟨b4, k⟩ := k
    refine aw_iald (ws_225 w) b4 d_X12_look_19 ?_
    refine aw_bipush (v := 32) d_X12_look_20 ib_32 ?_
    refine aw_icmp_ne (tgt := 38) d_X12_look_22 rfl (fun c5 => ?_) (fun c5 => ?_)
    · have k := k.1 c5
      refine aw_aload_n (i := 0) rfl d_X12_look_38 0 rfl ?_
      refine aw_geti (k0 := 33) kc_12 (ws_1 w) (Nat.le_of_ble_eq_true rfl) tw_1775 d_X12_look_39 rfl ?_
      refine aw_aload_n (i := 0) rfl d_X12_look_42 0 rfl ?_
      refine aw_geti (k0 := 32) kc_12 (ws_1 w) (Nat.le_of_ble_eq_true rfl) tw_1774 d_X12_look_43 rfl ?_
      refine aw_icmp_ge (tgt := 61) d_X12_look_46 rfl (fun c6 => ?_) (fun c6 => ?_)
      · have k := k.1 c6
        refine aw_iconst (v := (-1)) d_X12_look_61 ic_m1 ?_
        exact aw_iret rfl d_X12_look_62 ⟨Nat.le_refl _, Nat.le_refl _⟩ ⟨_, rfl, k⟩
      · have k := k.2 c6
        refine aw_aload_n (i := 0) rfl d_X12_look_49 0 rfl ?_
        refine aw_getr (k0 := 30) kc_12 (ws_1 w) (Nat.le_of_ble_eq_true rfl) tw_1772 d_X12_look_50 rfl (wr_1_30 w) ?_
        refine aw_aload_n (i := 0) rfl d_X12_look_53 0 rfl ?_
        refine aw_geti (k0 := 33) kc_12 (ws_1 w) (Nat.le_of_ble_eq_true rfl) tw_1775 d_X12_look_54 rfl ?_
        obtain ⟨b7, k⟩ := k
        refine aw_iald (ws_225 w) b7 d_X12_look_57 ?_
        refine aw_goto (tgt := 62) d_X12_look_58 rfl ?_
        exact aw_iret rfl d_X12_look_62 ⟨Nat.le_refl _, Nat.le_refl _⟩ ⟨_, rfl, k⟩
    · have k := k.2 c5
      refine aw_aload_n (i := 0) rfl d_X12_look_25 0 rfl ?_
      refine aw_dup d_X12_look_26 rfl ?_
      refine aw_geti (k0 := 33) kc_12 (ws_1 w) (Nat.le_of_ble_eq_true rfl) tw_1775 d_X12_look_27 rfl ?_
      refine aw_iconst (v := 1) d_X12_look_30 ic_1 ?_
      refine aw_iadd d_X12_look_31 ?_
      refine aw_puti (k0 := 33) kc_12 (ws_1 w) (Nat.le_of_ble_eq_true rfl) tw_1775 d_X12_look_32 rfl rfl nf_i ?_
      refine aw_goto (tgt := 0) d_X12_look_35 rfl ?_
      exact k
theorem t_X12_look_0 (d : Nat) (h : Hp_) (w : Wf h)  (K : Int32 → Hp_ → Prop) (k : ((h_i h 1 32) ≤ (h_i h 1 33) → ((h_i h 1 32) ≤ (h_i h 1 33) → K (-1) h) ∧ (¬ (h_i h 1 32) ≤ (h_i h 1 33) → vp_in (h_i h 1 33) 160 ∧ (K (h_i h 225 ((h_i h 1 33) : Int32).toNatClampNeg) h))) ∧ (¬ (h_i h 1 32) ≤ (h_i h 1 33) → vp_in (h_i h 1 33) 160 ∧ ((¬ (h_i h 225 ((h_i h 1 33) : Int32).toNatClampNeg) = 32 → ((h_i h 1 32) ≤ (h_i h 1 33) → K (-1) h) ∧ (¬ (h_i h 1 32) ≤ (h_i h 1 33) → vp_in (h_i h 1 33) 160 ∧ (K (h_i h 225 ((h_i h 1 33) : Int32).toNatClampNeg) h))) ∧ ((h_i h 225 ((h_i h 1 33) : Int32).toNatClampNeg) = 32 → AW (m_X12_look (d + 0) 0 0) 0 0 0 [(0, .ref 1)] [] (h_im h 1 33 ((h_i h 1 33) + 1)) (kI K))))) : AW (m_X12_look (d + 0) 0 0) 0 0 0 [(0, .ref 1)] [] h (kI K) := by
  refine aw_aload_n (i := 0) rfl d_X12_look_0 0 rfl ?_
  refine aw_geti (k0 := 33) kc_12 (ws_1 w) (Nat.le_of_ble_eq_true rfl) tw_1775 d_X12_look_1 rfl ?_
  refine aw_aload_n (i := 0) rfl d_X12_look_4 0 rfl ?_
  refine aw_geti (k0 := 32) kc_12 (ws_1 w) (Nat.le_of_ble_eq_true rfl) tw_1774 d_X12_look_5 rfl ?_
  refine aw_icmp_ge (tgt := 38) d_X12_look_8 rfl (fun c8 => ?_) (fun c8 => ?_)
  · have k := k.1 c8
    refine aw_aload_n (i := 0) rfl d_X12_look_38 0 rfl ?_
    refine aw_geti (k0 := 33) kc_12 (ws_1 w) (Nat.le_of_ble_eq_true rfl) tw_1775 d_X12_look_39 rfl ?_
    refine aw_aload_n (i := 0) rfl d_X12_look_42 0 rfl ?_
    refine aw_geti (k0 := 32) kc_12 (ws_1 w) (Nat.le_of_ble_eq_true rfl) tw_1774 d_X12_look_43 rfl ?_
    refine aw_icmp_ge (tgt := 61) d_X12_look_46 rfl (fun c9 => ?_) (fun c9 => ?_)
    · have k := k.1 c9
      refine aw_iconst (v := (-1)) d_X12_look_61 ic_m1 ?_
      exact aw_iret rfl d_X12_look_62 ⟨Nat.le_refl _, Nat.le_refl _⟩ ⟨_, rfl, k⟩
    · have k := k.2 c9
      refine aw_aload_n (i := 0) rfl d_X12_look_49 0 rfl ?_
      refine aw_getr (k0 := 30) kc_12 (ws_1 w) (Nat.le_of_ble_eq_true rfl) tw_1772 d_X12_look_50 rfl (wr_1_30 w) ?_
      refine aw_aload_n (i := 0) rfl d_X12_look_53 0 rfl ?_
      refine aw_geti (k0 := 33) kc_12 (ws_1 w) (Nat.le_of_ble_eq_true rfl) tw_1775 d_X12_look_54 rfl ?_
      obtain ⟨b10, k⟩ := k
      refine aw_iald (ws_225 w) b10 d_X12_look_57 ?_
      refine aw_goto (tgt := 62) d_X12_look_58 rfl ?_
      exact aw_iret rfl d_X12_look_62 ⟨Nat.le_refl _, Nat.le_refl _⟩ ⟨_, rfl, k⟩
  · have k := k.2 c8
    refine aw_aload_n (i := 0) rfl d_X12_look_11 0 rfl ?_
    refine aw_getr (k0 := 30) kc_12 (ws_1 w) (Nat.le_of_ble_eq_true rfl) tw_1772 d_X12_look_12 rfl (wr_1_30 w) ?_
    refine aw_aload_n (i := 0) rfl d_X12_look_15 0 rfl ?_
    refine aw_geti (k0 := 33) kc_12 (ws_1 w) (Nat.le_of_ble_eq_true rfl) tw_1775 d_X12_look_16 rfl ?_
    obtain ⟨b11, k⟩ := k
    refine aw_iald (ws_225 w) b11 d_X12_look_19 ?_
    refine aw_bipush (v := 32) d_X12_look_20 ib_32 ?_
    refine aw_icmp_ne (tgt := 38) d_X12_look_22 rfl (fun c12 => ?_) (fun c12 => ?_)
    · have k := k.1 c12
      refine aw_aload_n (i := 0) rfl d_X12_look_38 0 rfl ?_
      refine aw_geti (k0 := 33) kc_12 (ws_1 w) (Nat.le_of_ble_eq_true rfl) tw_1775 d_X12_look_39 rfl ?_
      refine aw_aload_n (i := 0) rfl d_X12_look_42 0 rfl ?_
      refine aw_geti (k0 := 32) kc_12 (ws_1 w) (Nat.le_of_ble_eq_true rfl) tw_1774 d_X12_look_43 rfl ?_
      refine aw_icmp_ge (tgt := 61) d_X12_look_46 rfl (fun c13 => ?_) (fun c13 => ?_)
      · have k := k.1 c13
        refine aw_iconst (v := (-1)) d_X12_look_61 ic_m1 ?_
        exact aw_iret rfl d_X12_look_62 ⟨Nat.le_refl _, Nat.le_refl _⟩ ⟨_, rfl, k⟩
      · have k := k.2 c13
        refine aw_aload_n (i := 0) rfl d_X12_look_49 0 rfl ?_
        refine aw_getr (k0 := 30) kc_12 (ws_1 w) (Nat.le_of_ble_eq_true rfl) tw_1772 d_X12_look_50 rfl (wr_1_30 w) ?_
        refine aw_aload_n (i := 0) rfl d_X12_look_53 0 rfl ?_
        refine aw_geti (k0 := 33) kc_12 (ws_1 w) (Nat.le_of_ble_eq_true rfl) tw_1775 d_X12_look_54 rfl ?_
        obtain ⟨b14, k⟩ := k
        refine aw_iald (ws_225 w) b14 d_X12_look_57 ?_
        refine aw_goto (tgt := 62) d_X12_look_58 rfl ?_
        exact aw_iret rfl d_X12_look_62 ⟨Nat.le_refl _, Nat.le_refl _⟩ ⟨_, rfl, k⟩
    · have k := k.2 c12
      refine aw_aload_n (i := 0) rfl d_X12_look_25 0 rfl ?_
      refine aw_dup d_X12_look_26 rfl ?_
      refine aw_geti (k0 := 33) kc_12 (ws_1 w) (Nat.le_of_ble_eq_true rfl) tw_1775 d_X12_look_27 rfl ?_
      refine aw_iconst (v := 1) d_X12_look_30 ic_1 ?_
      refine aw_iadd d_X12_look_31 ?_
      refine aw_puti (k0 := 33) kc_12 (ws_1 w) (Nat.le_of_ble_eq_true rfl) tw_1775 d_X12_look_32 rfl rfl nf_i ?_
      refine aw_goto (tgt := 0) d_X12_look_35 rfl ?_
      exact k
theorem t_X12_bad (d : Nat) (h : Hp_) (w : Wf h)  (K : Hp_ → Prop) (k : (¬ (h_i h 1 34) = (-1) → K (h_im h 1 34 (h_i h 1 34))) ∧ ((h_i h 1 34) = (-1) → K (h_im h 1 34 (h_i h 1 33)))) : Cv (m_X12_bad (d + 0) 0 0) [.ref 1] h K := by
  refine Ct.of (fun _ _ _ => trivial) rfl (Nat.le_of_ble_eq_true rfl) ?_
  show AW (m_X12_bad (d + 0) 0 0) 0 0 0 [(0, .ref 1)] [] h (kV K)
  refine aw_aload_n (i := 0) rfl d_X12_bad_0 0 rfl ?_
  refine aw_aload_n (i := 0) rfl d_X12_bad_1 0 rfl ?_
  refine aw_geti (k0 := 34) kc_12 (ws_1 w) (Nat.le_of_ble_eq_true rfl) tw_1776 d_X12_bad_2 rfl ?_
  refine aw_iconst (v := (-1)) d_X12_bad_5 ic_m1 ?_
  refine aw_icmp_ne (tgt := 16) d_X12_bad_6 rfl (fun c1 => ?_) (fun c1 => ?_)
  · have k := k.1 c1
    refine aw_aload_n (i := 0) rfl d_X12_bad_16 0 rfl ?_
    refine aw_geti (k0 := 34) kc_12 (ws_1 w) (Nat.le_of_ble_eq_true rfl) tw_1776 d_X12_bad_17 rfl ?_
    refine aw_puti (k0 := 34) kc_12 (ws_1 w) (Nat.le_of_ble_eq_true rfl) tw_1776 d_X12_bad_20 rfl rfl nf_i ?_
    exact aw_vret rfl d_X12_bad_23 ⟨Nat.le_refl _, Nat.le_refl _⟩ ⟨rfl, k⟩
  · have k := k.2 c1
    refine aw_aload_n (i := 0) rfl d_X12_bad_9 0 rfl ?_
    refine aw_geti (k0 := 33) kc_12 (ws_1 w) (Nat.le_of_ble_eq_true rfl) tw_1775 d_X12_bad_10 rfl ?_
    refine aw_goto (tgt := 20) d_X12_bad_13 rfl ?_
    refine aw_puti (k0 := 34) kc_12 (ws_1 w) (Nat.le_of_ble_eq_true rfl) tw_1776 d_X12_bad_20 rfl rfl nf_i ?_
    exact aw_vret rfl d_X12_bad_23 ⟨Nat.le_refl _, Nat.le_refl _⟩ ⟨rfl, k⟩
theorem t_X12_say (d : Nat) (h : Hp_) (w : Wf h) (x1 : Int32) (K : Hp_ → Prop) (k : vp_in (h_i h 1 36) 560 ∧ (K (h_im (h_im h 226 ((h_i h 1 36) : Int32).toNatClampNeg x1) 1 36 ((h_i h 1 36) + 1)))) : Cv (m_X12_say (d + 0) 0 0) [.ref 1, .int x1] h K := by
  refine Ct.of (fun _ _ _ => trivial) rfl (Nat.le_of_ble_eq_true rfl) ?_
  show AW (m_X12_say (d + 0) 0 0) 0 0 0 [(0, .ref 1), (1, .int x1)] [] h (kV K)
  refine aw_aload_n (i := 0) rfl d_X12_say_0 0 rfl ?_
  refine aw_getr (k0 := 31) kc_12 (ws_1 w) (Nat.le_of_ble_eq_true rfl) tw_1773 d_X12_say_1 rfl (wr_1_31 w) ?_
  refine aw_aload_n (i := 0) rfl d_X12_say_4 0 rfl ?_
  refine aw_geti (k0 := 36) kc_12 (ws_1 w) (Nat.le_of_ble_eq_true rfl) tw_1778 d_X12_say_5 rfl ?_
  refine aw_iload_n (i := 1) rfl d_X12_say_8 1 rfl ?_
  obtain ⟨b1, k⟩ := k
  refine aw_iast (ws_226 w) b1 d_X12_say_9 ?_
  refine aw_aload_n (i := 0) rfl d_X12_say_10 0 rfl ?_
  refine aw_dup d_X12_say_11 rfl ?_
  refine aw_geti (k0 := 36) kc_12 (ws_1 w) (Nat.le_of_ble_eq_true rfl) tw_1778 d_X12_say_12 rfl ?_
  refine aw_vi (v2 := (h_i h 1 36)) (rfl) ?_
  refine aw_iconst (v := 1) d_X12_say_15 ic_1 ?_
  refine aw_iadd d_X12_say_16 ?_
  refine aw_puti (k0 := 36) kc_12 (ws_1 w) (Nat.le_of_ble_eq_true rfl) tw_1778 d_X12_say_17 rfl rfl nf_i ?_
  exact aw_vret rfl d_X12_say_20 ⟨Nat.le_refl _, Nat.le_refl _⟩ ⟨rfl, k⟩
theorem t_X12_number (d : Nat) (h : Hp_) (w : Wf h)  (K : Int32 → Hp_ → Prop) (k : Ci (m_X12_look (d + 0) 0 0) [.ref 1] h (fun r3 h1 => Wf h1 ∧ (Ci (m_X12_isDigit (d + 0) 0 0) [.int r3] h1 (fun r6 h4 => Wf h4 ∧ ((¬ r6 = 0 → AW (m_X12_number (d + 1) 0 0) 0 0 20 [(0, .ref 1), (1, .int 0), (2, .int 0)] [] h4 (kI K)) ∧ (r6 = 0 → Cv (m_X12_bad (d + 0) 0 0) [.ref 1] h4 (fun h8 => Wf h8 ∧ (K (-1) h8)))))))) : Ci (m_X12_number (d + 1) 0 0) [.ref 1] h K := by
  refine Ct.of (fun _ _ _ => trivial) rfl (Nat.le_of_ble_eq_true rfl) ?_
  show AW (m_X12_number (d + 1) 0 0) 0 0 0 [(0, .ref 1)] [] h (kI K)
  refine aw_aload_n (i := 0) rfl d_X12_number_0 0 rfl ?_
  refine aw_Vi 1 [] [] d_X12_number_1 (cV_X12_look (d + 0) 0 0) kc_12 (ws_1 w) tw_2206 rfl (rr0 (Nat.le_of_ble_eq_true rfl) (Nat.le_of_ble_eq_true rfl)) (Nat.le_of_ble_eq_true rfl) xs0 k (fun r3 h1 kk => ?_)
  obtain ⟨w2, k⟩ := kk
  refine aw_Si [.int r3] [] d_X12_number_4 (cS_X12_isDigit (d + 0) 0 0) tw_2222 rfl (rr0 (Nat.le_of_ble_eq_true rfl) (Nat.le_of_ble_eq_true rfl)) (Nat.le_of_ble_eq_true rfl) xs0 k (fun r6 h4 kk => ?_)
  obtain ⟨w5, k⟩ := kk
  refine aw_if_ne (tgt := 16) d_X12_number_7 rfl (fun c7 => ?_) (fun c7 => ?_)
  · have k := k.1 c7
    refine aw_iconst (v := 0) d_X12_number_16 ic_0 ?_
    refine aw_istore_n (i := 1) rfl [(0, .ref 1), (1, .int 0)] d_X12_number_17 (Nat.le_of_ble_eq_true rfl) rfl rfl ?_
    refine aw_iconst (v := 0) d_X12_number_18 ic_0 ?_
    refine aw_istore_n (i := 2) rfl [(0, .ref 1), (1, .int 0), (2, .int 0)] d_X12_number_19 (Nat.le_of_ble_eq_true rfl) rfl rfl ?_
    exact k
  · have k := k.2 c7
    refine aw_aload_n (i := 0) rfl d_X12_number_10 0 rfl ?_
    refine aw_Vv 1 [] [] d_X12_number_11 (cV_X12_bad (d + 0) 0 0) kc_12 (ws_1 w5) tw_2225 rfl (rr0 (Nat.le_of_ble_eq_true rfl) (Nat.le_of_ble_eq_true rfl)) (Nat.le_of_ble_eq_true rfl) xs0 k (fun h8 kk => ?_)
    obtain ⟨w9, k⟩ := kk
    refine aw_iconst (v := (-1)) d_X12_number_14 ic_m1 ?_
    exact aw_iret rfl d_X12_number_15 ⟨Nat.le_refl _, Nat.le_refl _⟩ ⟨_, rfl, k⟩
theorem t_X12_number_20 (d : Nat) (h : Hp_) (w : Wf h) (x1 : Int32) (x2 : Int32) (K : Int32 → Hp_ → Prop) (k : ((h_i h 1 32) ≤ (h_i h 1 33) → K x1 h) ∧ (¬ (h_i h 1 32) ≤ (h_i h 1 33) → vp_in (h_i h 1 33) 160 ∧ (Ci (m_X12_isDigit (d + 0) 0 0) [.int (h_i h 225 ((h_i h 1 33) : Int32).toNatClampNeg)] h (fun r15 h13 => Wf h13 ∧ ((r15 = 0 → K x1 h13) ∧ (¬ r15 = 0 → (¬ x2 = 4 → vp_in (h_i h13 1 33) 160 ∧ (AW (m_X12_number (d + 1) 0 0) 0 0 20 [(0, .ref 1), (1, .int (((10 * x1) + (h_i h13 225 ((h_i h13 1 33) : Int32).toNatClampNeg)) - 48)), (2, .int (x2 + 1))] [] (h_im h13 1 33 ((h_i h13 1 33) + 1)) (kI K))) ∧ (x2 = 4 → Cv (m_X12_bad (d + 0) 0 0) [.ref 1] h13 (fun h19 => Wf h19 ∧ (K (-1) h19))))))))) : AW (m_X12_number (d + 1) 0 0) 0 0 20 [(0, .ref 1), (1, .int x1), (2, .int x2)] [] h (kI K) := by
  refine aw_aload_n (i := 0) rfl d_X12_number_20 0 rfl ?_
  refine aw_geti (k0 := 33) kc_12 (ws_1 w) (Nat.le_of_ble_eq_true rfl) tw_1775 d_X12_number_21 rfl ?_
  refine aw_aload_n (i := 0) rfl d_X12_number_24 0 rfl ?_
  refine aw_geti (k0 := 32) kc_12 (ws_1 w) (Nat.le_of_ble_eq_true rfl) tw_1774 d_X12_number_25 rfl ?_
  refine aw_icmp_ge (tgt := 91) d_X12_number_28 rfl (fun c11 => ?_) (fun c11 => ?_)
  · have k := k.1 c11
    refine aw_iload_n (i := 1) rfl d_X12_number_91 1 rfl ?_
    exact aw_iret rfl d_X12_number_92 ⟨Nat.le_refl _, Nat.le_refl _⟩ ⟨_, rfl, k⟩
  · have k := k.2 c11
    refine aw_aload_n (i := 0) rfl d_X12_number_31 0 rfl ?_
    refine aw_getr (k0 := 30) kc_12 (ws_1 w) (Nat.le_of_ble_eq_true rfl) tw_1772 d_X12_number_32 rfl (wr_1_30 w) ?_
    refine aw_aload_n (i := 0) rfl d_X12_number_35 0 rfl ?_
    refine aw_geti (k0 := 33) kc_12 (ws_1 w) (Nat.le_of_ble_eq_true rfl) tw_1775 d_X12_number_36 rfl ?_
    obtain ⟨b12, k⟩ := k
    refine aw_iald (ws_225 w) b12 d_X12_number_39 ?_
    refine aw_Si [.int (h_i h 225 ((h_i h 1 33) : Int32).toNatClampNeg)] [] d_X12_number_40 (cS_X12_isDigit (d + 0) 0 0) tw_2222 rfl (rr0 (Nat.le_of_ble_eq_true rfl) (Nat.le_of_ble_eq_true rfl)) (Nat.le_of_ble_eq_true rfl) xs0 k (fun r15 h13 kk => ?_)
    obtain ⟨w14, k⟩ := kk
    refine aw_if_eq (tgt := 91) d_X12_number_43 rfl (fun c16 => ?_) (fun c16 => ?_)
    · have k := k.1 c16
      refine aw_iload_n (i := 1) rfl d_X12_number_91 1 rfl ?_
      exact aw_iret rfl d_X12_number_92 ⟨Nat.le_refl _, Nat.le_refl _⟩ ⟨_, rfl, k⟩
    · have k := k.2 c16
      refine aw_iload_n (i := 2) rfl d_X12_number_46 2 rfl ?_
      refine aw_iconst (v := 4) d_X12_number_47 ic_4 ?_
      refine aw_icmp_ne (tgt := 57) d_X12_number_48 rfl (fun c17 => ?_) (fun c17 => ?_)
      · have k := k.1 c17
        refine aw_bipush (v := 10) d_X12_number_57 ib_10 ?_
        refine aw_iload_n (i := 1) rfl d_X12_number_59 1 rfl ?_
        refine aw_imul d_X12_number_60 ?_
        refine aw_aload_n (i := 0) rfl d_X12_number_61 0 rfl ?_
        refine aw_getr (k0 := 30) kc_12 (ws_1 w14) (Nat.le_of_ble_eq_true rfl) tw_1772 d_X12_number_62 rfl (wr_1_30 w14) ?_
        refine aw_aload_n (i := 0) rfl d_X12_number_65 0 rfl ?_
        refine aw_geti (k0 := 33) kc_12 (ws_1 w14) (Nat.le_of_ble_eq_true rfl) tw_1775 d_X12_number_66 rfl ?_
        obtain ⟨b18, k⟩ := k
        refine aw_iald (ws_225 w14) b18 d_X12_number_69 ?_
        refine aw_iadd d_X12_number_70 ?_
        refine aw_bipush (v := 48) d_X12_number_71 ib_48 ?_
        refine aw_isub d_X12_number_73 ?_
        refine aw_istore_n (i := 1) rfl [(0, .ref 1), (1, .int (((10 * x1) + (h_i h13 225 ((h_i h13 1 33) : Int32).toNatClampNeg)) - 48)), (2, .int x2)] d_X12_number_74 (Nat.le_of_ble_eq_true rfl) rfl rfl ?_
        refine aw_iinc (v := (x2 + 1)) [(0, .ref 1), (1, .int (((10 * x1) + (h_i h13 225 ((h_i h13 1 33) : Int32).toNatClampNeg)) - 48)), (2, .int (x2 + 1))] d_X12_number_75 2 rfl rfl (Nat.le_of_ble_eq_true rfl) rfl rfl ?_
        refine aw_aload_n (i := 0) rfl d_X12_number_78 0 rfl ?_
        refine aw_dup d_X12_number_79 rfl ?_
        refine aw_geti (k0 := 33) kc_12 (ws_1 w14) (Nat.le_of_ble_eq_true rfl) tw_1775 d_X12_number_80 rfl ?_
        refine aw_iconst (v := 1) d_X12_number_83 ic_1 ?_
        refine aw_iadd d_X12_number_84 ?_
        refine aw_puti (k0 := 33) kc_12 (ws_1 w14) (Nat.le_of_ble_eq_true rfl) tw_1775 d_X12_number_85 rfl rfl nf_i ?_
        refine aw_goto (tgt := 20) d_X12_number_88 rfl ?_
        exact k
      · have k := k.2 c17
        refine aw_aload_n (i := 0) rfl d_X12_number_51 0 rfl ?_
        refine aw_Vv 1 [] [] d_X12_number_52 (cV_X12_bad (d + 0) 0 0) kc_12 (ws_1 w14) tw_2225 rfl (rr0 (Nat.le_of_ble_eq_true rfl) (Nat.le_of_ble_eq_true rfl)) (Nat.le_of_ble_eq_true rfl) xs0 k (fun h19 kk => ?_)
        obtain ⟨w20, k⟩ := kk
        refine aw_iconst (v := (-1)) d_X12_number_55 ic_m1 ?_
        exact aw_iret rfl d_X12_number_56 ⟨Nat.le_refl _, Nat.le_refl _⟩ ⟨_, rfl, k⟩
theorem t_X12_within (d : Nat) (h : Hp_) (w : Wf h) (x1 : Int32) (x2 : Int32) (K : Int32 → Hp_ → Prop) (k : Ci (m_X12_number (d + 1) 0 0) [.ref 1] h (fun r3 h1 => Wf h1 ∧ ((¬ (h_i h1 1 34) = (-1) → K r3 h1) ∧ ((h_i h1 1 34) = (-1) → ((x1 ≤ r3 ∧ r3 ≤ x2) → K r3 h1) ∧ (¬ (x1 ≤ r3 ∧ r3 ≤ x2) → K r3 (h_im h1 1 34 ((h_i h1 1 33) - 1))))))) : Ci (m_X12_within (d + 2) 0 0) [.ref 1, .int x1, .int x2] h K := by
  refine Ct.of (fun _ _ _ => trivial) rfl (Nat.le_of_ble_eq_true rfl) ?_
  show AW (m_X12_within (d + 2) 0 0) 0 0 0 [(0, .ref 1), (1, .int x1), (2, .int x2)] [] h (kI K)
  refine aw_aload_n (i := 0) rfl d_X12_within_0 0 rfl ?_
  refine aw_Vi 1 [] [] d_X12_within_1 (cV_X12_number (d + 1) 0 0) kc_12 (ws_1 w) tw_2218 rfl (rr0 (Nat.le_of_ble_eq_true rfl) (Nat.le_of_ble_eq_true rfl)) (Nat.le_of_ble_eq_true rfl) xs0 k (fun r3 h1 kk => ?_)
  obtain ⟨w2, k⟩ := kk
  refine aw_istore_n (i := 3) rfl [(0, .ref 1), (1, .int x1), (2, .int x2), (3, .int r3)] d_X12_within_4 (Nat.le_of_ble_eq_true rfl) rfl rfl ?_
  refine aw_aload_n (i := 0) rfl d_X12_within_5 0 rfl ?_
  refine aw_geti (k0 := 34) kc_12 (ws_1 w2) (Nat.le_of_ble_eq_true rfl) tw_1776 d_X12_within_6 rfl ?_
  refine aw_iconst (v := (-1)) d_X12_within_9 ic_m1 ?_
  refine aw_icmp_ne (tgt := 32) d_X12_within_10 rfl (fun c4 => ?_) (fun c4 => ?_)
  · have k := k.1 c4
    refine aw_iload_n (i := 3) rfl d_X12_within_32 3 rfl ?_
    exact aw_iret rfl d_X12_within_33 ⟨Nat.le_refl _, Nat.le_refl _⟩ ⟨_, rfl, k⟩
  · have k := k.2 c4
    refine aw_iload_n (i := 3) rfl d_X12_within_13 3 rfl ?_
    refine aw_iload_n (i := 1) rfl d_X12_within_14 1 rfl ?_
    refine aw_iload_n (i := 2) rfl d_X12_within_15 2 rfl ?_
    refine aw_Si [.int r3, .int x1, .int x2] [] d_X12_within_16 (cS_X12_in (d + 0) 0 0) tw_2143 rfl (rr0 (Nat.le_of_ble_eq_true rfl) (Nat.le_of_ble_eq_true rfl)) (Nat.le_of_ble_eq_true rfl) xs0 (s_X12_in _ _ r3 x1 x2) (fun _ _ kk => ?_)
    obtain ⟨e5, e6⟩ := kk
    rw [e5, e6]
    refine aw_ifb_ne (tgt := 32) d_X12_within_19 rfl (fun c7 => ?_) (fun c7 => ?_)
    · have k := k.1 c7
      refine aw_iload_n (i := 3) rfl d_X12_within_32 3 rfl ?_
      exact aw_iret rfl d_X12_within_33 ⟨Nat.le_refl _, Nat.le_refl _⟩ ⟨_, rfl, k⟩
    · have k := k.2 c7
      refine aw_aload_n (i := 0) rfl d_X12_within_22 0 rfl ?_
      refine aw_aload_n (i := 0) rfl d_X12_within_23 0 rfl ?_
      refine aw_geti (k0 := 33) kc_12 (ws_1 w2) (Nat.le_of_ble_eq_true rfl) tw_1775 d_X12_within_24 rfl ?_
      refine aw_iconst (v := 1) d_X12_within_27 ic_1 ?_
      refine aw_isub d_X12_within_28 ?_
      refine aw_puti (k0 := 34) kc_12 (ws_1 w2) (Nat.le_of_ble_eq_true rfl) tw_1776 d_X12_within_29 rfl rfl nf_i ?_
      refine aw_iload_n (i := 3) rfl d_X12_within_32 3 rfl ?_
      exact aw_iret rfl d_X12_within_33 ⟨Nat.le_refl _, Nat.le_refl _⟩ ⟨_, rfl, k⟩
theorem t_X12_isDigit (d : Nat) (h : Hp_) (x0 : Int32) (K : Int32 → Hp_ → Prop) (k : (x0 < 48 → K 0 h) ∧ (¬ x0 < 48 → (57 < x0 → K 0 h) ∧ (¬ 57 < x0 → K 1 h))) : Ci (m_X12_isDigit (d + 0) 0 0) [.int x0] h K := by
  refine Ct.of (fun _ _ _ => trivial) rfl (Nat.le_of_ble_eq_true rfl) ?_
  show AW (m_X12_isDigit (d + 0) 0 0) 0 0 0 [(0, .int x0)] [] h (kI K)
  refine aw_iload_n (i := 0) rfl d_X12_isDigit_0 0 rfl ?_
  refine aw_bipush (v := 48) d_X12_isDigit_1 ib_48 ?_
  refine aw_icmp_lt (tgt := 16) d_X12_isDigit_3 rfl (fun c1 => ?_) (fun c1 => ?_)
  · have k := k.1 c1
    refine aw_iconst (v := 0) d_X12_isDigit_16 ic_0 ?_
    exact aw_zret rfl rfl d_X12_isDigit_17 ⟨Nat.le_refl _, Nat.le_refl _⟩ ⟨_, rfl, k⟩
  · have k := k.2 c1
    refine aw_iload_n (i := 0) rfl d_X12_isDigit_6 0 rfl ?_
    refine aw_bipush (v := 57) d_X12_isDigit_7 ib_57 ?_
    refine aw_icmp_gt (tgt := 16) d_X12_isDigit_9 rfl (fun c2 => ?_) (fun c2 => ?_)
    · have k := k.1 c2
      refine aw_iconst (v := 0) d_X12_isDigit_16 ic_0 ?_
      exact aw_zret rfl rfl d_X12_isDigit_17 ⟨Nat.le_refl _, Nat.le_refl _⟩ ⟨_, rfl, k⟩
    · have k := k.2 c2
      refine aw_iconst (v := 1) d_X12_isDigit_12 ic_1 ?_
      refine aw_goto (tgt := 17) d_X12_isDigit_13 rfl ?_
      exact aw_zret rfl rfl d_X12_isDigit_17 ⟨Nat.le_refl _, Nat.le_refl _⟩ ⟨_, rfl, k⟩
theorem t_X12_opens (d : Nat) (h : Hp_) (w : Wf h)  (K : Int32 → Hp_ → Prop) (k : (¬ (h_i h 1 35) = 6 → K 1 (h_im (h_im h 1 35 ((h_i h 1 35) + 1)) 1 33 ((h_i h 1 33) + 1))) ∧ ((h_i h 1 35) = 6 → Cv (m_X12_bad (d + 0) 0 0) [.ref 1] h (fun h2 => Wf h2 ∧ (K 0 h2)))) : Ci (m_X12_opens (d + 1) 0 0) [.ref 1] h K := by
  refine Ct.of (fun _ _ _ => trivial) rfl (Nat.le_of_ble_eq_true rfl) ?_
  show AW (m_X12_opens (d + 1) 0 0) 0 0 0 [(0, .ref 1)] [] h (kI K)
  refine aw_aload_n (i := 0) rfl d_X12_opens_0 0 rfl ?_
  refine aw_geti (k0 := 35) kc_12 (ws_1 w) (Nat.le_of_ble_eq_true rfl) tw_1777 d_X12_opens_1 rfl ?_
  refine aw_bipush (v := 6) d_X12_opens_4 ib_6 ?_
  refine aw_icmp_ne (tgt := 15) d_X12_opens_6 rfl (fun c1 => ?_) (fun c1 => ?_)
  · have k := k.1 c1
    refine aw_aload_n (i := 0) rfl d_X12_opens_15 0 rfl ?_
    refine aw_dup d_X12_opens_16 rfl ?_
    refine aw_geti (k0 := 35) kc_12 (ws_1 w) (Nat.le_of_ble_eq_true rfl) tw_1777 d_X12_opens_17 rfl ?_
    refine aw_iconst (v := 1) d_X12_opens_20 ic_1 ?_
    refine aw_iadd d_X12_opens_21 ?_
    refine aw_puti (k0 := 35) kc_12 (ws_1 w) (Nat.le_of_ble_eq_true rfl) tw_1777 d_X12_opens_22 rfl rfl nf_i ?_
    refine aw_aload_n (i := 0) rfl d_X12_opens_25 0 rfl ?_
    refine aw_dup d_X12_opens_26 rfl ?_
    refine aw_geti (k0 := 33) kc_12 (ws_1 w) (Nat.le_of_ble_eq_true rfl) tw_1775 d_X12_opens_27 rfl ?_
    refine aw_vi (v2 := (h_i h 1 33)) (rfl) ?_
    refine aw_iconst (v := 1) d_X12_opens_30 ic_1 ?_
    refine aw_iadd d_X12_opens_31 ?_
    refine aw_puti (k0 := 33) kc_12 (ws_1 w) (Nat.le_of_ble_eq_true rfl) tw_1775 d_X12_opens_32 rfl rfl nf_i ?_
    refine aw_iconst (v := 1) d_X12_opens_35 ic_1 ?_
    exact aw_zret rfl rfl d_X12_opens_36 ⟨Nat.le_refl _, Nat.le_refl _⟩ ⟨_, rfl, k⟩
  · have k := k.2 c1
    refine aw_aload_n (i := 0) rfl d_X12_opens_9 0 rfl ?_
    refine aw_Vv 1 [] [] d_X12_opens_10 (cV_X12_bad (d + 0) 0 0) kc_12 (ws_1 w) tw_2225 rfl (rr0 (Nat.le_of_ble_eq_true rfl) (Nat.le_of_ble_eq_true rfl)) (Nat.le_of_ble_eq_true rfl) xs0 k (fun h2 kk => ?_)
    obtain ⟨w3, k⟩ := kk
    refine aw_iconst (v := 0) d_X12_opens_13 ic_0 ?_
    exact aw_zret rfl rfl d_X12_opens_14 ⟨Nat.le_refl _, Nat.le_refl _⟩ ⟨_, rfl, k⟩
theorem t_X12_closes (d : Nat) (h : Hp_) (w : Wf h) (x1 : Int32) (K : Hp_ → Prop) (k : (¬ (h_i h 1 34) = (-1) → K (h_im (h_im h 1 33 ((h_i h 1 33) + 1)) 1 35 ((h_i h 1 35) - 1))) ∧ ((h_i h 1 34) = (-1) → Ci (m_X12_look (d + 0) 0 0) [.ref 1] h (fun r4 h2 => Wf h2 ∧ ((r4 = x1 → K (h_im (h_im h2 1 33 ((h_i h2 1 33) + 1)) 1 35 ((h_i h2 1 35) - 1))) ∧ (¬ r4 = x1 → Cv (m_X12_bad (d + 0) 0 0) [.ref 1] h2 (fun h6 => Wf h6 ∧ (K (h_im (h_im h6 1 33 ((h_i h6 1 33) + 1)) 1 35 ((h_i h6 1 35) - 1))))))))) : Cv (m_X12_closes (d + 1) 0 0) [.ref 1, .int x1] h K := by
  refine Ct.of (fun _ _ _ => trivial) rfl (Nat.le_of_ble_eq_true rfl) ?_
  show AW (m_X12_closes (d + 1) 0 0) 0 0 0 [(0, .ref 1), (1, .int x1)] [] h (kV K)
  refine aw_aload_n (i := 0) rfl d_X12_closes_0 0 rfl ?_
  refine aw_geti (k0 := 34) kc_12 (ws_1 w) (Nat.le_of_ble_eq_true rfl) tw_1776 d_X12_closes_1 rfl ?_
  refine aw_iconst (v := (-1)) d_X12_closes_4 ic_m1 ?_
  refine aw_icmp_ne (tgt := 20) d_X12_closes_5 rfl (fun c1 => ?_) (fun c1 => ?_)
  · have k := k.1 c1
    refine aw_aload_n (i := 0) rfl d_X12_closes_20 0 rfl ?_
    refine aw_dup d_X12_closes_21 rfl ?_
    refine aw_geti (k0 := 33) kc_12 (ws_1 w) (Nat.le_of_ble_eq_true rfl) tw_1775 d_X12_closes_22 rfl ?_
    refine aw_iconst (v := 1) d_X12_closes_25 ic_1 ?_
    refine aw_iadd d_X12_closes_26 ?_
    refine aw_puti (k0 := 33) kc_12 (ws_1 w) (Nat.le_of_ble_eq_true rfl) tw_1775 d_X12_closes_27 rfl rfl nf_i ?_
    refine aw_aload_n (i := 0) rfl d_X12_closes_30 0 rfl ?_
    refine aw_dup d_X12_closes_31 rfl ?_
    refine aw_geti (k0 := 35) kc_12 (ws_1 w) (Nat.le_of_ble_eq_true rfl) tw_1777 d_X12_closes_32 rfl ?_
    refine aw_vi (v2 := (h_i h 1 35)) (rfl) ?_
    refine aw_iconst (v := 1) d_X12_closes_35 ic_1 ?_
    refine aw_isub d_X12_closes_36 ?_
    refine aw_puti (k0 := 35) kc_12 (ws_1 w) (Nat.le_of_ble_eq_true rfl) tw_1777 d_X12_closes_37 rfl rfl nf_i ?_
    exact aw_vret rfl d_X12_closes_40 ⟨Nat.le_refl _, Nat.le_refl _⟩ ⟨rfl, k⟩
  · have k := k.2 c1
    refine aw_aload_n (i := 0) rfl d_X12_closes_8 0 rfl ?_
    refine aw_Vi 1 [] [] d_X12_closes_9 (cV_X12_look (d + 0) 0 0) kc_12 (ws_1 w) tw_2206 rfl (rr0 (Nat.le_of_ble_eq_true rfl) (Nat.le_of_ble_eq_true rfl)) (Nat.le_of_ble_eq_true rfl) xs0 k (fun r4 h2 kk => ?_)
    obtain ⟨w3, k⟩ := kk
    refine aw_iload_n (i := 1) rfl d_X12_closes_12 1 rfl ?_
    refine aw_icmp_eq (tgt := 20) d_X12_closes_13 rfl (fun c5 => ?_) (fun c5 => ?_)
    · have k := k.1 c5
      refine aw_aload_n (i := 0) rfl d_X12_closes_20 0 rfl ?_
      refine aw_dup d_X12_closes_21 rfl ?_
      refine aw_geti (k0 := 33) kc_12 (ws_1 w3) (Nat.le_of_ble_eq_true rfl) tw_1775 d_X12_closes_22 rfl ?_
      refine aw_iconst (v := 1) d_X12_closes_25 ic_1 ?_
      refine aw_iadd d_X12_closes_26 ?_
      refine aw_puti (k0 := 33) kc_12 (ws_1 w3) (Nat.le_of_ble_eq_true rfl) tw_1775 d_X12_closes_27 rfl rfl nf_i ?_
      refine aw_aload_n (i := 0) rfl d_X12_closes_30 0 rfl ?_
      refine aw_dup d_X12_closes_31 rfl ?_
      refine aw_geti (k0 := 35) kc_12 (ws_1 w3) (Nat.le_of_ble_eq_true rfl) tw_1777 d_X12_closes_32 rfl ?_
      refine aw_vi (v2 := (h_i h2 1 35)) (rfl) ?_
      refine aw_iconst (v := 1) d_X12_closes_35 ic_1 ?_
      refine aw_isub d_X12_closes_36 ?_
      refine aw_puti (k0 := 35) kc_12 (ws_1 w3) (Nat.le_of_ble_eq_true rfl) tw_1777 d_X12_closes_37 rfl rfl nf_i ?_
      exact aw_vret rfl d_X12_closes_40 ⟨Nat.le_refl _, Nat.le_refl _⟩ ⟨rfl, k⟩
    · have k := k.2 c5
      refine aw_aload_n (i := 0) rfl d_X12_closes_16 0 rfl ?_
      refine aw_Vv 1 [] [] d_X12_closes_17 (cV_X12_bad (d + 0) 0 0) kc_12 (ws_1 w3) tw_2225 rfl (rr0 (Nat.le_of_ble_eq_true rfl) (Nat.le_of_ble_eq_true rfl)) (Nat.le_of_ble_eq_true rfl) xs0 k (fun h6 kk => ?_)
      obtain ⟨w7, k⟩ := kk
      refine aw_aload_n (i := 0) rfl d_X12_closes_20 0 rfl ?_
      refine aw_dup d_X12_closes_21 rfl ?_
      refine aw_geti (k0 := 33) kc_12 (ws_1 w7) (Nat.le_of_ble_eq_true rfl) tw_1775 d_X12_closes_22 rfl ?_
      refine aw_iconst (v := 1) d_X12_closes_25 ic_1 ?_
      refine aw_iadd d_X12_closes_26 ?_
      refine aw_puti (k0 := 33) kc_12 (ws_1 w7) (Nat.le_of_ble_eq_true rfl) tw_1775 d_X12_closes_27 rfl rfl nf_i ?_
      refine aw_aload_n (i := 0) rfl d_X12_closes_30 0 rfl ?_
      refine aw_dup d_X12_closes_31 rfl ?_
      refine aw_geti (k0 := 35) kc_12 (ws_1 w7) (Nat.le_of_ble_eq_true rfl) tw_1777 d_X12_closes_32 rfl ?_
      refine aw_vi (v2 := (h_i h6 1 35)) (rfl) ?_
      refine aw_iconst (v := 1) d_X12_closes_35 ic_1 ?_
      refine aw_isub d_X12_closes_36 ?_
      refine aw_puti (k0 := 35) kc_12 (ws_1 w7) (Nat.le_of_ble_eq_true rfl) tw_1777 d_X12_closes_37 rfl rfl nf_i ?_
      exact aw_vret rfl d_X12_closes_40 ⟨Nat.le_refl _, Nat.le_refl _⟩ ⟨rfl, k⟩
theorem t_X12_isLetter (d : Nat) (h : Hp_) (x0 : Int32) (x1 : Int32) (K : Int32 → Hp_ → Prop) (k : (x0 = 97 → (¬ x1 = 2 → K 0 h) ∧ (x1 = 2 → K 1 h)) ∧ ((x0 = 99 → K 1 h) ∧ ((x0 = 100 → (¬ x1 = 1 → K 0 h) ∧ (x1 = 1 → K 1 h)) ∧ ((x0 = 101 → (¬ x1 = 1 → K 0 h) ∧ (x1 = 1 → K 1 h)) ∧ ((x0 = 104 → (¬ x1 = 1 → K 0 h) ∧ (x1 = 1 → K 1 h)) ∧ ((x0 = 107 → (¬ x1 = 1 → K 0 h) ∧ (x1 = 1 → K 1 h)) ∧ ((x0 = 109 → (¬ x1 = 2 → K 0 h) ∧ (x1 = 2 → K 1 h)) ∧ ((x0 = 110 → (¬ x1 = 1 → K 0 h) ∧ (x1 = 1 → K 1 h)) ∧ ((x0 = 112 → (¬ x1 = 1 → K 0 h) ∧ (x1 = 1 → K 1 h)) ∧ ((x0 = 116 → K 1 h) ∧ ((x0 = 119 → (¬ x1 = 1 → K 0 h) ∧ (x1 = 1 → K 1 h)) ∧ ((x0 = 120 → (¬ x1 = 2 → K 0 h) ∧ (x1 = 2 → K 1 h)) ∧ ((x0 = 121 → (¬ x1 = 2 → K 0 h) ∧ (x1 = 2 → K 1 h)) ∧ ((¬ x0 = 97 ∧ ¬ x0 = 99 ∧ ¬ x0 = 100 ∧ ¬ x0 = 101 ∧ ¬ x0 = 104 ∧ ¬ x0 = 107 ∧ ¬ x0 = 109 ∧ ¬ x0 = 110 ∧ ¬ x0 = 112 ∧ ¬ x0 = 116 ∧ ¬ x0 = 119 ∧ ¬ x0 = 120 ∧ ¬ x0 = 121 → K 0 h))))))))))))))) : Ci (m_X12_isLetter (d + 0) 0 0) [.int x0, .int x1] h K := by
  refine Ct.of (fun _ _ _ => trivial) rfl (Nat.le_of_ble_eq_true rfl) ?_
  show AW (m_X12_isLetter (d + 0) 0 0) 0 0 0 [(0, .int x0), (1, .int x1)] [] h (kI K)
  refine aw_iload_n (i := 0) rfl d_X12_isLetter_0 0 rfl ?_
  by_cases e1 : x0 = 97
  · refine aw_tableIn (off := 128) (tgt := 129) d_X12_isLetter_1 (by rw [e1]; decide) (by rw [e1]; decide) (by rw [e1]; decide) rfl ?_
    have k := k.1 e1
    refine aw_iload_n (i := 1) rfl d_X12_isLetter_129 1 rfl ?_
    refine aw_iconst (v := 2) d_X12_isLetter_130 ic_2 ?_
    refine aw_icmp_ne (tgt := 138) d_X12_isLetter_131 rfl (fun c2 => ?_) (fun c2 => ?_)
    · have k := k.1 c2
      refine aw_iconst (v := 0) d_X12_isLetter_138 ic_0 ?_
      exact aw_zret rfl rfl d_X12_isLetter_139 ⟨Nat.le_refl _, Nat.le_refl _⟩ ⟨_, rfl, k⟩
    · have k := k.2 c2
      refine aw_iconst (v := 1) d_X12_isLetter_134 ic_1 ?_
      refine aw_goto (tgt := 139) d_X12_isLetter_135 rfl ?_
      exact aw_zret rfl rfl d_X12_isLetter_139 ⟨Nat.le_refl _, Nat.le_refl _⟩ ⟨_, rfl, k⟩
  · have k := k.2
    by_cases e3 : x0 = 99
    · refine aw_tableIn (off := 115) (tgt := 116) d_X12_isLetter_1 (by rw [e3]; decide) (by rw [e3]; decide) (by rw [e3]; decide) rfl ?_
      have k := k.1 e3
      refine aw_iconst (v := 1) d_X12_isLetter_116 ic_1 ?_
      exact aw_zret rfl rfl d_X12_isLetter_117 ⟨Nat.le_refl _, Nat.le_refl _⟩ ⟨_, rfl, k⟩
    · have k := k.2
      by_cases e4 : x0 = 100
      · refine aw_tableIn (off := 117) (tgt := 118) d_X12_isLetter_1 (by rw [e4]; decide) (by rw [e4]; decide) (by rw [e4]; decide) rfl ?_
        have k := k.1 e4
        refine aw_iload_n (i := 1) rfl d_X12_isLetter_118 1 rfl ?_
        refine aw_iconst (v := 1) d_X12_isLetter_119 ic_1 ?_
        refine aw_icmp_ne (tgt := 127) d_X12_isLetter_120 rfl (fun c5 => ?_) (fun c5 => ?_)
        · have k := k.1 c5
          refine aw_iconst (v := 0) d_X12_isLetter_127 ic_0 ?_
          exact aw_zret rfl rfl d_X12_isLetter_128 ⟨Nat.le_refl _, Nat.le_refl _⟩ ⟨_, rfl, k⟩
        · have k := k.2 c5
          refine aw_iconst (v := 1) d_X12_isLetter_123 ic_1 ?_
          refine aw_goto (tgt := 128) d_X12_isLetter_124 rfl ?_
          exact aw_zret rfl rfl d_X12_isLetter_128 ⟨Nat.le_refl _, Nat.le_refl _⟩ ⟨_, rfl, k⟩
      · have k := k.2
        by_cases e6 : x0 = 101
        · refine aw_tableIn (off := 117) (tgt := 118) d_X12_isLetter_1 (by rw [e6]; decide) (by rw [e6]; decide) (by rw [e6]; decide) rfl ?_
          have k := k.1 e6
          refine aw_iload_n (i := 1) rfl d_X12_isLetter_118 1 rfl ?_
          refine aw_iconst (v := 1) d_X12_isLetter_119 ic_1 ?_
          refine aw_icmp_ne (tgt := 127) d_X12_isLetter_120 rfl (fun c7 => ?_) (fun c7 => ?_)
          · have k := k.1 c7
            refine aw_iconst (v := 0) d_X12_isLetter_127 ic_0 ?_
            exact aw_zret rfl rfl d_X12_isLetter_128 ⟨Nat.le_refl _, Nat.le_refl _⟩ ⟨_, rfl, k⟩
          · have k := k.2 c7
            refine aw_iconst (v := 1) d_X12_isLetter_123 ic_1 ?_
            refine aw_goto (tgt := 128) d_X12_isLetter_124 rfl ?_
            exact aw_zret rfl rfl d_X12_isLetter_128 ⟨Nat.le_refl _, Nat.le_refl _⟩ ⟨_, rfl, k⟩
        · have k := k.2
          by_cases e8 : x0 = 104
          · refine aw_tableIn (off := 117) (tgt := 118) d_X12_isLetter_1 (by rw [e8]; decide) (by rw [e8]; decide) (by rw [e8]; decide) rfl ?_
            have k := k.1 e8
            refine aw_iload_n (i := 1) rfl d_X12_isLetter_118 1 rfl ?_
            refine aw_iconst (v := 1) d_X12_isLetter_119 ic_1 ?_
            refine aw_icmp_ne (tgt := 127) d_X12_isLetter_120 rfl (fun c9 => ?_) (fun c9 => ?_)
            · have k := k.1 c9
              refine aw_iconst (v := 0) d_X12_isLetter_127 ic_0 ?_
              exact aw_zret rfl rfl d_X12_isLetter_128 ⟨Nat.le_refl _, Nat.le_refl _⟩ ⟨_, rfl, k⟩
            · have k := k.2 c9
              refine aw_iconst (v := 1) d_X12_isLetter_123 ic_1 ?_
              refine aw_goto (tgt := 128) d_X12_isLetter_124 rfl ?_
              exact aw_zret rfl rfl d_X12_isLetter_128 ⟨Nat.le_refl _, Nat.le_refl _⟩ ⟨_, rfl, k⟩
          · have k := k.2
            by_cases e10 : x0 = 107
            · refine aw_tableIn (off := 117) (tgt := 118) d_X12_isLetter_1 (by rw [e10]; decide) (by rw [e10]; decide) (by rw [e10]; decide) rfl ?_
              have k := k.1 e10
              refine aw_iload_n (i := 1) rfl d_X12_isLetter_118 1 rfl ?_
              refine aw_iconst (v := 1) d_X12_isLetter_119 ic_1 ?_
              refine aw_icmp_ne (tgt := 127) d_X12_isLetter_120 rfl (fun c11 => ?_) (fun c11 => ?_)
              · have k := k.1 c11
                refine aw_iconst (v := 0) d_X12_isLetter_127 ic_0 ?_
                exact aw_zret rfl rfl d_X12_isLetter_128 ⟨Nat.le_refl _, Nat.le_refl _⟩ ⟨_, rfl, k⟩
              · have k := k.2 c11
                refine aw_iconst (v := 1) d_X12_isLetter_123 ic_1 ?_
                refine aw_goto (tgt := 128) d_X12_isLetter_124 rfl ?_
                exact aw_zret rfl rfl d_X12_isLetter_128 ⟨Nat.le_refl _, Nat.le_refl _⟩ ⟨_, rfl, k⟩
            · have k := k.2
              by_cases e12 : x0 = 109
              · refine aw_tableIn (off := 128) (tgt := 129) d_X12_isLetter_1 (by rw [e12]; decide) (by rw [e12]; decide) (by rw [e12]; decide) rfl ?_
                have k := k.1 e12
                refine aw_iload_n (i := 1) rfl d_X12_isLetter_129 1 rfl ?_
                refine aw_iconst (v := 2) d_X12_isLetter_130 ic_2 ?_
                refine aw_icmp_ne (tgt := 138) d_X12_isLetter_131 rfl (fun c13 => ?_) (fun c13 => ?_)
                · have k := k.1 c13
                  refine aw_iconst (v := 0) d_X12_isLetter_138 ic_0 ?_
                  exact aw_zret rfl rfl d_X12_isLetter_139 ⟨Nat.le_refl _, Nat.le_refl _⟩ ⟨_, rfl, k⟩
                · have k := k.2 c13
                  refine aw_iconst (v := 1) d_X12_isLetter_134 ic_1 ?_
                  refine aw_goto (tgt := 139) d_X12_isLetter_135 rfl ?_
                  exact aw_zret rfl rfl d_X12_isLetter_139 ⟨Nat.le_refl _, Nat.le_refl _⟩ ⟨_, rfl, k⟩
              · have k := k.2
                by_cases e14 : x0 = 110
                · refine aw_tableIn (off := 117) (tgt := 118) d_X12_isLetter_1 (by rw [e14]; decide) (by rw [e14]; decide) (by rw [e14]; decide) rfl ?_
                  have k := k.1 e14
                  refine aw_iload_n (i := 1) rfl d_X12_isLetter_118 1 rfl ?_
                  refine aw_iconst (v := 1) d_X12_isLetter_119 ic_1 ?_
                  refine aw_icmp_ne (tgt := 127) d_X12_isLetter_120 rfl (fun c15 => ?_) (fun c15 => ?_)
                  · have k := k.1 c15
                    refine aw_iconst (v := 0) d_X12_isLetter_127 ic_0 ?_
                    exact aw_zret rfl rfl d_X12_isLetter_128 ⟨Nat.le_refl _, Nat.le_refl _⟩ ⟨_, rfl, k⟩
                  · have k := k.2 c15
                    refine aw_iconst (v := 1) d_X12_isLetter_123 ic_1 ?_
                    refine aw_goto (tgt := 128) d_X12_isLetter_124 rfl ?_
                    exact aw_zret rfl rfl d_X12_isLetter_128 ⟨Nat.le_refl _, Nat.le_refl _⟩ ⟨_, rfl, k⟩
                · have k := k.2
                  by_cases e16 : x0 = 112
                  · refine aw_tableIn (off := 117) (tgt := 118) d_X12_isLetter_1 (by rw [e16]; decide) (by rw [e16]; decide) (by rw [e16]; decide) rfl ?_
                    have k := k.1 e16
                    refine aw_iload_n (i := 1) rfl d_X12_isLetter_118 1 rfl ?_
                    refine aw_iconst (v := 1) d_X12_isLetter_119 ic_1 ?_
                    refine aw_icmp_ne (tgt := 127) d_X12_isLetter_120 rfl (fun c17 => ?_) (fun c17 => ?_)
                    · have k := k.1 c17
                      refine aw_iconst (v := 0) d_X12_isLetter_127 ic_0 ?_
                      exact aw_zret rfl rfl d_X12_isLetter_128 ⟨Nat.le_refl _, Nat.le_refl _⟩ ⟨_, rfl, k⟩
                    · have k := k.2 c17
                      refine aw_iconst (v := 1) d_X12_isLetter_123 ic_1 ?_
                      refine aw_goto (tgt := 128) d_X12_isLetter_124 rfl ?_
                      exact aw_zret rfl rfl d_X12_isLetter_128 ⟨Nat.le_refl _, Nat.le_refl _⟩ ⟨_, rfl, k⟩
                  · have k := k.2
                    by_cases e18 : x0 = 116
                    · refine aw_tableIn (off := 115) (tgt := 116) d_X12_isLetter_1 (by rw [e18]; decide) (by rw [e18]; decide) (by rw [e18]; decide) rfl ?_
                      have k := k.1 e18
                      refine aw_iconst (v := 1) d_X12_isLetter_116 ic_1 ?_
                      exact aw_zret rfl rfl d_X12_isLetter_117 ⟨Nat.le_refl _, Nat.le_refl _⟩ ⟨_, rfl, k⟩
                    · have k := k.2
                      by_cases e19 : x0 = 119
                      · refine aw_tableIn (off := 117) (tgt := 118) d_X12_isLetter_1 (by rw [e19]; decide) (by rw [e19]; decide) (by rw [e19]; decide) rfl ?_
                        have k := k.1 e19
                        refine aw_iload_n (i := 1) rfl d_X12_isLetter_118 1 rfl ?_
                        refine aw_iconst (v := 1) d_X12_isLetter_119 ic_1 ?_
                        refine aw_icmp_ne (tgt := 127) d_X12_isLetter_120 rfl (fun c20 => ?_) (fun c20 => ?_)
                        · have k := k.1 c20
                          refine aw_iconst (v := 0) d_X12_isLetter_127 ic_0 ?_
                          exact aw_zret rfl rfl d_X12_isLetter_128 ⟨Nat.le_refl _, Nat.le_refl _⟩ ⟨_, rfl, k⟩
                        · have k := k.2 c20
                          refine aw_iconst (v := 1) d_X12_isLetter_123 ic_1 ?_
                          refine aw_goto (tgt := 128) d_X12_isLetter_124 rfl ?_
                          exact aw_zret rfl rfl d_X12_isLetter_128 ⟨Nat.le_refl _, Nat.le_refl _⟩ ⟨_, rfl, k⟩
                      · have k := k.2
                        by_cases e21 : x0 = 120
                        · refine aw_tableIn (off := 128) (tgt := 129) d_X12_isLetter_1 (by rw [e21]; decide) (by rw [e21]; decide) (by rw [e21]; decide) rfl ?_
                          have k := k.1 e21
                          refine aw_iload_n (i := 1) rfl d_X12_isLetter_129 1 rfl ?_
                          refine aw_iconst (v := 2) d_X12_isLetter_130 ic_2 ?_
                          refine aw_icmp_ne (tgt := 138) d_X12_isLetter_131 rfl (fun c22 => ?_) (fun c22 => ?_)
                          · have k := k.1 c22
                            refine aw_iconst (v := 0) d_X12_isLetter_138 ic_0 ?_
                            exact aw_zret rfl rfl d_X12_isLetter_139 ⟨Nat.le_refl _, Nat.le_refl _⟩ ⟨_, rfl, k⟩
                          · have k := k.2 c22
                            refine aw_iconst (v := 1) d_X12_isLetter_134 ic_1 ?_
                            refine aw_goto (tgt := 139) d_X12_isLetter_135 rfl ?_
                            exact aw_zret rfl rfl d_X12_isLetter_139 ⟨Nat.le_refl _, Nat.le_refl _⟩ ⟨_, rfl, k⟩
                        · have k := k.2
                          by_cases e23 : x0 = 121
                          · refine aw_tableIn (off := 128) (tgt := 129) d_X12_isLetter_1 (by rw [e23]; decide) (by rw [e23]; decide) (by rw [e23]; decide) rfl ?_
                            have k := k.1 e23
                            refine aw_iload_n (i := 1) rfl d_X12_isLetter_129 1 rfl ?_
                            refine aw_iconst (v := 2) d_X12_isLetter_130 ic_2 ?_
                            refine aw_icmp_ne (tgt := 138) d_X12_isLetter_131 rfl (fun c24 => ?_) (fun c24 => ?_)
                            · have k := k.1 c24
                              refine aw_iconst (v := 0) d_X12_isLetter_138 ic_0 ?_
                              exact aw_zret rfl rfl d_X12_isLetter_139 ⟨Nat.le_refl _, Nat.le_refl _⟩ ⟨_, rfl, k⟩
                            · have k := k.2 c24
                              refine aw_iconst (v := 1) d_X12_isLetter_134 ic_1 ?_
                              refine aw_goto (tgt := 139) d_X12_isLetter_135 rfl ?_
                              exact aw_zret rfl rfl d_X12_isLetter_139 ⟨Nat.le_refl _, Nat.le_refl _⟩ ⟨_, rfl, k⟩
                          · have k := k.2
                            have k := k ⟨e1, e3, e4, e6, e8, e10, e12, e14, e16, e18, e19, e21, e23⟩
                            have n25 := sw_ne (97) (by decide) e1
                            have n26 := sw_ne (99) (by decide) e3
                            have n27 := sw_ne (100) (by decide) e4
                            have n28 := sw_ne (101) (by decide) e6
                            have n29 := sw_ne (104) (by decide) e8
                            have n30 := sw_ne (107) (by decide) e10
                            have n31 := sw_ne (109) (by decide) e12
                            have n32 := sw_ne (110) (by decide) e14
                            have n33 := sw_ne (112) (by decide) e16
                            have n34 := sw_ne (116) (by decide) e18
                            have n35 := sw_ne (119) (by decide) e19
                            have n36 := sw_ne (120) (by decide) e21
                            have n37 := sw_ne (121) (by decide) e23
                            refine aw_tableD (tgt := 140) d_X12_isLetter_1 (by
                              rcases (show (x0 : Int32).toInt < 97 ∨ 121 < (x0 : Int32).toInt ∨ (x0 : Int32).toInt = 98 ∨ (x0 : Int32).toInt = 102 ∨ (x0 : Int32).toInt = 103 ∨ (x0 : Int32).toInt = 105 ∨ (x0 : Int32).toInt = 106 ∨ (x0 : Int32).toInt = 108 ∨ (x0 : Int32).toInt = 111 ∨ (x0 : Int32).toInt = 113 ∨ (x0 : Int32).toInt = 114 ∨ (x0 : Int32).toInt = 115 ∨ (x0 : Int32).toInt = 117 ∨ (x0 : Int32).toInt = 118 by omega) with e | e | e | e | e | e | e | e | e | e | e | e | e | e
                              · exact Or.inl e
                              · exact Or.inr (Or.inl e)
                              · exact Or.inr (Or.inr (by rw [e]; decide))
                              · exact Or.inr (Or.inr (by rw [e]; decide))
                              · exact Or.inr (Or.inr (by rw [e]; decide))
                              · exact Or.inr (Or.inr (by rw [e]; decide))
                              · exact Or.inr (Or.inr (by rw [e]; decide))
                              · exact Or.inr (Or.inr (by rw [e]; decide))
                              · exact Or.inr (Or.inr (by rw [e]; decide))
                              · exact Or.inr (Or.inr (by rw [e]; decide))
                              · exact Or.inr (Or.inr (by rw [e]; decide))
                              · exact Or.inr (Or.inr (by rw [e]; decide))
                              · exact Or.inr (Or.inr (by rw [e]; decide))
                              · exact Or.inr (Or.inr (by rw [e]; decide))) rfl ?_
                            refine aw_iconst (v := 0) d_X12_isLetter_140 ic_0 ?_
                            exact aw_zret rfl rfl d_X12_isLetter_141 ⟨Nat.le_refl _, Nat.le_refl _⟩ ⟨_, rfl, k⟩
theorem t_X12_isSign (d : Nat) (h : Hp_) (x0 : Int32) (K : Int32 → Hp_ → Prop) (k : (x0 = 61 → K 1 h) ∧ (¬ x0 = 61 → (x0 = 60 → K 1 h) ∧ (¬ x0 = 60 → (¬ x0 = 62 → K 0 h) ∧ (x0 = 62 → K 1 h)))) : Ci (m_X12_isSign (d + 0) 0 0) [.int x0] h K := by
  refine Ct.of (fun _ _ _ => trivial) rfl (Nat.le_of_ble_eq_true rfl) ?_
  show AW (m_X12_isSign (d + 0) 0 0) 0 0 0 [(0, .int x0)] [] h (kI K)
  refine aw_iload_n (i := 0) rfl d_X12_isSign_0 0 rfl ?_
  refine aw_bipush (v := 61) d_X12_isSign_1 ib_61 ?_
  refine aw_icmp_eq (tgt := 18) d_X12_isSign_3 rfl (fun c1 => ?_) (fun c1 => ?_)
  · have k := k.1 c1
    refine aw_iconst (v := 1) d_X12_isSign_18 ic_1 ?_
    refine aw_goto (tgt := 23) d_X12_isSign_19 rfl ?_
    exact aw_zret rfl rfl d_X12_isSign_23 ⟨Nat.le_refl _, Nat.le_refl _⟩ ⟨_, rfl, k⟩
  · have k := k.2 c1
    refine aw_iload_n (i := 0) rfl d_X12_isSign_6 0 rfl ?_
    refine aw_bipush (v := 60) d_X12_isSign_7 ib_60 ?_
    refine aw_icmp_eq (tgt := 18) d_X12_isSign_9 rfl (fun c2 => ?_) (fun c2 => ?_)
    · have k := k.1 c2
      refine aw_iconst (v := 1) d_X12_isSign_18 ic_1 ?_
      refine aw_goto (tgt := 23) d_X12_isSign_19 rfl ?_
      exact aw_zret rfl rfl d_X12_isSign_23 ⟨Nat.le_refl _, Nat.le_refl _⟩ ⟨_, rfl, k⟩
    · have k := k.2 c2
      refine aw_iload_n (i := 0) rfl d_X12_isSign_12 0 rfl ?_
      refine aw_bipush (v := 62) d_X12_isSign_13 ib_62 ?_
      refine aw_icmp_ne (tgt := 22) d_X12_isSign_15 rfl (fun c3 => ?_) (fun c3 => ?_)
      · have k := k.1 c3
        refine aw_iconst (v := 0) d_X12_isSign_22 ic_0 ?_
        exact aw_zret rfl rfl d_X12_isSign_23 ⟨Nat.le_refl _, Nat.le_refl _⟩ ⟨_, rfl, k⟩
      · have k := k.2 c3
        refine aw_iconst (v := 1) d_X12_isSign_18 ic_1 ?_
        refine aw_goto (tgt := 23) d_X12_isSign_19 rfl ?_
        exact aw_zret rfl rfl d_X12_isSign_23 ⟨Nat.le_refl _, Nat.le_refl _⟩ ⟨_, rfl, k⟩
theorem t_X12_ask (d : Nat) (h : Hp_) (w : Wf h)  (K : Hp_ → Prop) (k : (¬ (h_i h 1 34) = (-1) → Cv (m_X12_say (d + 0) 0 0) [.ref 1, .int 2] (h_im h 1 33 ((h_i h 1 33) + 1)) (fun h2 => Wf h2 ∧ (K h2))) ∧ ((h_i h 1 34) = (-1) → Ci (m_X12_look (d + 0) 0 0) [.ref 1] h (fun r7 h5 => Wf h5 ∧ ((r7 = 63 → Cv (m_X12_say (d + 0) 0 0) [.ref 1, .int 2] (h_im h5 1 33 ((h_i h5 1 33) + 1)) (fun h9 => Wf h9 ∧ (K h9))) ∧ (¬ r7 = 63 → Cv (m_X12_bad (d + 0) 0 0) [.ref 1] h5 (fun h12 => Wf h12 ∧ (Cv (m_X12_say (d + 0) 0 0) [.ref 1, .int 2] (h_im h12 1 33 ((h_i h12 1 33) + 1)) (fun h15 => Wf h15 ∧ (K h15))))))))) : Cv (m_X12_ask (d + 1) 0 0) [.ref 1] h K := by
  refine Ct.of (fun _ _ _ => trivial) rfl (Nat.le_of_ble_eq_true rfl) ?_
  show AW (m_X12_ask (d + 1) 0 0) 0 0 0 [(0, .ref 1)] [] h (kV K)
  refine aw_aload_n (i := 0) rfl d_X12_ask_0 0 rfl ?_
  refine aw_geti (k0 := 34) kc_12 (ws_1 w) (Nat.le_of_ble_eq_true rfl) tw_1776 d_X12_ask_1 rfl ?_
  refine aw_iconst (v := (-1)) d_X12_ask_4 ic_m1 ?_
  refine aw_icmp_ne (tgt := 21) d_X12_ask_5 rfl (fun c1 => ?_) (fun c1 => ?_)
  · have k := k.1 c1
    refine aw_aload_n (i := 0) rfl d_X12_ask_21 0 rfl ?_
    refine aw_dup d_X12_ask_22 rfl ?_
    refine aw_geti (k0 := 33) kc_12 (ws_1 w) (Nat.le_of_ble_eq_true rfl) tw_1775 d_X12_ask_23 rfl ?_
    refine aw_iconst (v := 1) d_X12_ask_26 ic_1 ?_
    refine aw_iadd d_X12_ask_27 ?_
    refine aw_puti (k0 := 33) kc_12 (ws_1 w) (Nat.le_of_ble_eq_true rfl) tw_1775 d_X12_ask_28 rfl rfl nf_i ?_
    refine aw_aload_n (i := 0) rfl d_X12_ask_31 0 rfl ?_
    refine aw_iconst (v := 2) d_X12_ask_32 ic_2 ?_
    refine aw_Vv 1 [.int 2] [] d_X12_ask_33 (cV_X12_say (d + 0) 0 0) kc_12 (ws_1 w) tw_2210 rfl (rr0 (Nat.le_of_ble_eq_true rfl) (Nat.le_of_ble_eq_true rfl)) (Nat.le_of_ble_eq_true rfl) xs0 k (fun h2 kk => ?_)
    obtain ⟨w3, k⟩ := kk
    exact aw_vret rfl d_X12_ask_36 ⟨Nat.le_refl _, Nat.le_refl _⟩ ⟨rfl, k⟩
  · have k := k.2 c1
    refine aw_aload_n (i := 0) rfl d_X12_ask_8 0 rfl ?_
    refine aw_Vi 1 [] [] d_X12_ask_9 (cV_X12_look (d + 0) 0 0) kc_12 (ws_1 w) tw_2206 rfl (rr0 (Nat.le_of_ble_eq_true rfl) (Nat.le_of_ble_eq_true rfl)) (Nat.le_of_ble_eq_true rfl) xs0 k (fun r7 h5 kk => ?_)
    obtain ⟨w6, k⟩ := kk
    refine aw_bipush (v := 63) d_X12_ask_12 ib_63 ?_
    refine aw_icmp_eq (tgt := 21) d_X12_ask_14 rfl (fun c8 => ?_) (fun c8 => ?_)
    · have k := k.1 c8
      refine aw_aload_n (i := 0) rfl d_X12_ask_21 0 rfl ?_
      refine aw_dup d_X12_ask_22 rfl ?_
      refine aw_geti (k0 := 33) kc_12 (ws_1 w6) (Nat.le_of_ble_eq_true rfl) tw_1775 d_X12_ask_23 rfl ?_
      refine aw_iconst (v := 1) d_X12_ask_26 ic_1 ?_
      refine aw_iadd d_X12_ask_27 ?_
      refine aw_puti (k0 := 33) kc_12 (ws_1 w6) (Nat.le_of_ble_eq_true rfl) tw_1775 d_X12_ask_28 rfl rfl nf_i ?_
      refine aw_aload_n (i := 0) rfl d_X12_ask_31 0 rfl ?_
      refine aw_iconst (v := 2) d_X12_ask_32 ic_2 ?_
      refine aw_Vv 1 [.int 2] [] d_X12_ask_33 (cV_X12_say (d + 0) 0 0) kc_12 (ws_1 w6) tw_2210 rfl (rr0 (Nat.le_of_ble_eq_true rfl) (Nat.le_of_ble_eq_true rfl)) (Nat.le_of_ble_eq_true rfl) xs0 k (fun h9 kk => ?_)
      obtain ⟨w10, k⟩ := kk
      exact aw_vret rfl d_X12_ask_36 ⟨Nat.le_refl _, Nat.le_refl _⟩ ⟨rfl, k⟩
    · have k := k.2 c8
      refine aw_aload_n (i := 0) rfl d_X12_ask_17 0 rfl ?_
      refine aw_Vv 1 [] [] d_X12_ask_18 (cV_X12_bad (d + 0) 0 0) kc_12 (ws_1 w6) tw_2225 rfl (rr0 (Nat.le_of_ble_eq_true rfl) (Nat.le_of_ble_eq_true rfl)) (Nat.le_of_ble_eq_true rfl) xs0 k (fun h12 kk => ?_)
      obtain ⟨w13, k⟩ := kk
      refine aw_aload_n (i := 0) rfl d_X12_ask_21 0 rfl ?_
      refine aw_dup d_X12_ask_22 rfl ?_
      refine aw_geti (k0 := 33) kc_12 (ws_1 w13) (Nat.le_of_ble_eq_true rfl) tw_1775 d_X12_ask_23 rfl ?_
      refine aw_iconst (v := 1) d_X12_ask_26 ic_1 ?_
      refine aw_iadd d_X12_ask_27 ?_
      refine aw_puti (k0 := 33) kc_12 (ws_1 w13) (Nat.le_of_ble_eq_true rfl) tw_1775 d_X12_ask_28 rfl rfl nf_i ?_
      refine aw_aload_n (i := 0) rfl d_X12_ask_31 0 rfl ?_
      refine aw_iconst (v := 2) d_X12_ask_32 ic_2 ?_
      refine aw_Vv 1 [.int 2] [] d_X12_ask_33 (cV_X12_say (d + 0) 0 0) kc_12 (ws_1 w13) tw_2210 rfl (rr0 (Nat.le_of_ble_eq_true rfl) (Nat.le_of_ble_eq_true rfl)) (Nat.le_of_ble_eq_true rfl) xs0 k (fun h15 kk => ?_)
      obtain ⟨w16, k⟩ := kk
      exact aw_vret rfl d_X12_ask_36 ⟨Nat.le_refl _, Nat.le_refl _⟩ ⟨rfl, k⟩
