theorem t_X12_size (d : Nat) (h : Hp_) (w : Wf h) (x1 : Int32) (K : Int32 → Hp_ → Prop) (k : ((1 ≤ x1 ∧ x1 ≤ 12) → K 1 (h_im h 1 130 x1)) ∧ (¬ (1 ≤ x1 ∧ x1 ≤ 12) → K 0 h)) : Ci (m_X12_size (d + 1) 0 0) [.ref 1, .int x1] h K := by
  refine Ct.of (fun _ _ _ => trivial) rfl (Nat.le_of_ble_eq_true rfl) ?_
  show AW (m_X12_size (d + 1) 0 0) 0 0 0 [(0, .ref 1), (1, .int x1)] [] h (kI K)
  refine aw_iload_n (i := 1) rfl d_X12_size_0 1 rfl ?_
  refine aw_iconst (v := 1) d_X12_size_1 ic_1 ?_
  refine aw_bipush (v := 12) d_X12_size_2 ib_12 ?_
  refine aw_Si [.int x1, .int 1, .int 12] [] d_X12_size_4 (cS_X12_in (d + 0) 0 0) tw_2143 rfl (rr0 (Nat.le_of_ble_eq_true rfl) (Nat.le_of_ble_eq_true rfl)) (Nat.le_of_ble_eq_true rfl) xs0 (s_X12_in _ _ x1 1 12) (fun _ _ kk => ?_)
  obtain ⟨e1, e2⟩ := kk
  rw [e1, e2]
  refine aw_ifb_ne (tgt := 12) d_X12_size_7 rfl (fun c3 => ?_) (fun c3 => ?_)
  · have k := k.1 c3
    refine aw_aload_n (i := 0) rfl d_X12_size_12 0 rfl ?_
    refine aw_iload_n (i := 1) rfl d_X12_size_13 1 rfl ?_
    refine aw_puti (k0 := 130) kc_12 (ws_1 w) (Nat.le_of_ble_eq_true rfl) tw_1872 d_X12_size_14 rfl rfl nf_i ?_
    refine aw_iconst (v := 1) d_X12_size_17 ic_1 ?_
    exact aw_zret rfl rfl d_X12_size_18 ⟨Nat.le_refl _, Nat.le_refl _⟩ ⟨_, rfl, k⟩
  · have k := k.2 c3
    refine aw_iconst (v := 0) d_X12_size_10 ic_0 ?_
    exact aw_zret rfl rfl d_X12_size_11 ⟨Nat.le_refl _, Nat.le_refl _⟩ ⟨_, rfl, k⟩
theorem t_X11_size (d : Nat) (h : Hp_) (w : Wf h) (x1 : Int32) (K : Int32 → Hp_ → Prop) (k : ((1 ≤ x1 ∧ x1 ≤ 12) → K 1 (h_im h 21 15 x1)) ∧ (¬ (1 ≤ x1 ∧ x1 ≤ 12) → K 0 h)) : Ci (m_X11_size (d + 1) 0 0) [.ref 0, .int x1] h K := by
  refine Ct.of (fun _ _ _ => trivial) rfl (Nat.le_of_ble_eq_true rfl) ?_
  show AW (m_X11_size (d + 1) 0 0) 0 0 0 [(0, .ref 0), (1, .int x1)] [] h (kI K)
  refine aw_iload_n (i := 1) rfl d_X11_size_0 1 rfl ?_
  refine aw_iconst (v := 1) d_X11_size_1 ic_1 ?_
  refine aw_bipush (v := 12) d_X11_size_2 ib_12 ?_
  refine aw_Si [.int x1, .int 1, .int 12] [] d_X11_size_4 (cS_X11_within (d + 0) 0 0) tw_543 rfl (rr0 (Nat.le_of_ble_eq_true rfl) (Nat.le_of_ble_eq_true rfl)) (Nat.le_of_ble_eq_true rfl) xs0 (s_X11_within _ _ x1 1 12) (fun _ _ kk => ?_)
  obtain ⟨e1, e2⟩ := kk
  rw [e1, e2]
  refine aw_ifb_ne (tgt := 12) d_X11_size_7 rfl (fun c3 => ?_) (fun c3 => ?_)
  · have k := k.1 c3
    refine aw_aload_n (i := 0) rfl d_X11_size_12 0 rfl ?_
    refine aw_getr (k0 := 13) kc_11 (ws_0 w) (Nat.le_of_ble_eq_true rfl) tw_500 d_X11_size_13 rfl (wr_0_13 w) ?_
    refine aw_iload_n (i := 1) rfl d_X11_size_16 1 rfl ?_
    refine aw_puti (k0 := 15) kc_5 (ws_21 w) (Nat.le_of_ble_eq_true rfl) tw_453 d_X11_size_17 rfl rfl nf_i ?_
    refine aw_iconst (v := 1) d_X11_size_20 ic_1 ?_
    exact aw_zret rfl rfl d_X11_size_21 ⟨Nat.le_refl _, Nat.le_refl _⟩ ⟨_, rfl, k⟩
  · have k := k.2 c3
    refine aw_iconst (v := 0) d_X11_size_10 ic_0 ?_
    exact aw_zret rfl rfl d_X11_size_11 ⟨Nat.le_refl _, Nat.le_refl _⟩ ⟨_, rfl, k⟩
