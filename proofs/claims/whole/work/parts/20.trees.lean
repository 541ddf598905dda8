/-! words for the walks -/
abbrev kI (K : Int32 → Hp_ → Prop) : Option Value → Hp_ → Prop := fun v h' => ∃ r, v = some (.int r) ∧ K r h'
abbrev kV (K : Hp_ → Prop) : Option Value → Hp_ → Prop := fun v h' => v = none ∧ K h'
abbrev kL (K : Int64 → Hp_ → Prop) : Option Value → Hp_ → Prop := fun v h' => ∃ r, v = some (.long r) ∧ K r h'
abbrev kR (K : Option Nat → Hp_ → Prop) : Option Value → Hp_ → Prop := fun v h' => ∃ o, v = some (va_rf o) ∧ K o h'
theorem aw_lvp {M : Mc_} {kc ks pc : Nat} {lv : List (Nat × Value)} {st : List Value} {h : Hp_} {K : Option Value → Hp_ → Prop} (ps : List Nat) (lv' : List (Nat × Value)) (hp : ps.filterMap (fun i => lv[i]?) = lv') (k : AW M kc ks pc lv' st h K) : AW M kc ks pc lv st h K := aw_lv lv' (fun q hq => by
  rw [← hp] at hq
  obtain ⟨i, -, hi⟩ := List.mem_filterMap.mp hq
  exact List.mem_of_getElem? hi) k
theorem hi_s (h : Hp_) (a k : Nat) (x : Int32) : h_i (h_im h a k x) a k = x := by rw [h_i_im, if_pos ⟨rfl, rfl⟩]
theorem hl_s (h : Hp_) (a k : Nat) (x : Int64) : h_l (h_lm h a k x) a k = x := by rw [h_l_lm, if_pos ⟨rfl, rfl⟩]
theorem aw_vi {M : Mc_} {kc ks pc : Nat} {lv : List (Nat × Value)} {st : List Value} {h : Hp_} {K : Option Value → Hp_ → Prop} {v1 v2 : Int32} (e : v1 = v2) (k : AW M kc ks pc lv (.int v2 :: st) h K) : AW M kc ks pc lv (.int v1 :: st) h K := e ▸ k
theorem aw_vl {M : Mc_} {kc ks pc : Nat} {lv : List (Nat × Value)} {st : List Value} {h : Hp_} {K : Option Value → Hp_ → Prop} {v1 v2 : Int64} (e : v1 = v2) (k : AW M kc ks pc lv (.long v2 :: st) h K) : AW M kc ks pc lv (.long v1 :: st) h K := e ▸ k
theorem nf_z {x : Int32} (h : x = 0 ∨ x = 1) : narrow .boolean (.int x) = .int x ∧ fits .boolean (.int x) = true := by rcases h with h | h <;> subst h <;> exact ⟨rfl, rfl⟩
theorem sw_ne {x w : Int32} (v : Int) (hw : w.toInt = v) (h : ¬ x = w) : x.toInt ≠ v := fun z => h (Int32.toInt_inj.mp (z.trans hw.symm))
theorem rr0 {y' y : MethodName} {cc' cc : ByteArray} {nL' nL : Nat} {ret' ret : Option FieldType} {d h' H : Nat} (h1 : h' + 1 ≤ H) (h2 : nL' ≤ 81) : rr_ (fun _ _ _ => True, y', cc', nL', ret', { frames := d + h', cells := 0, slots := 0, locals := 100 * (d + h') }) (fun _ _ _ => True, y, cc, nL, ret, { frames := d + H, cells := 0, slots := 0, locals := 100 * (d + H) }) 0 0 :=
  ⟨⟨(show d + h' + 1 ≤ d + H by omega), (show 8 + (nL' + 11) + 100 * (d + h') ≤ 100 * (d + H) by omega)⟩, Nat.le_refl _, Nat.le_refl _⟩
theorem xs0 {y : MethodName} {cc : ByteArray} {nL : Nat} {ret : Option FieldType} {R : Room} : xs_ (fun _ _ _ => True, y, cc, nL, ret, R) := fun _ _ _ _ _ _ => trivial

theorem t_X12_in (d : Nat) (h : Hp_) (x0 : Int32) (x1 : Int32) (x2 : Int32) (K : Int32 → Hp_ → Prop) (k : (x0 < x1 → K 0 h) ∧ (¬ x0 < x1 → (x2 < x0 → K 0 h) ∧ (¬ x2 < x0 → K 1 h))) : Ci (m_X12_in (d + 0) 0 0) [.int x0, .int x1, .int x2] h K := by
  refine Ct.of (fun _ _ _ => trivial) (by decide) (Nat.le_of_ble_eq_true rfl) ?_
  show AW (m_X12_in (d + 0) 0 0) 0 0 0 [(0, .int x0), (1, .int x1), (2, .int x2)] [] h (kI K)
  refine aw_iload_n (i := 0) rfl d_X12_in_0 0 rfl ?_
  refine aw_iload_n (i := 1) rfl d_X12_in_1 1 rfl ?_
  refine aw_icmp_lt (tgt := 14) d_X12_in_2 rfl (fun c1 => ?_) (fun c1 => ?_)
  · have k := k.1 c1
    refine aw_iconst (v := 0) d_X12_in_14 ic_0 ?_
    exact aw_zret rfl rfl d_X12_in_15 ⟨Nat.le_refl _, Nat.le_refl _⟩ ⟨_, rfl, k⟩
  · have k := k.2 c1
    refine aw_iload_n (i := 0) rfl d_X12_in_5 0 rfl ?_
    refine aw_iload_n (i := 2) rfl d_X12_in_6 2 rfl ?_
    refine aw_icmp_gt (tgt := 14) d_X12_in_7 rfl (fun c2 => ?_) (fun c2 => ?_)
    · have k := k.1 c2
      refine aw_iconst (v := 0) d_X12_in_14 ic_0 ?_
      exact aw_zret rfl rfl d_X12_in_15 ⟨Nat.le_refl _, Nat.le_refl _⟩ ⟨_, rfl, k⟩
    · have k := k.2 c2
      refine aw_iconst (v := 1) d_X12_in_10 ic_1 ?_
      refine aw_goto (tgt := 15) d_X12_in_11 rfl ?_
      exact aw_zret rfl rfl d_X12_in_15 ⟨Nat.le_refl _, Nat.le_refl _⟩ ⟨_, rfl, k⟩
theorem s_X12_in (d : Nat) (h : Hp_) (x lo hi : Int32) : Ci (m_X12_in (d + 0) 0 0) [.int x, .int lo, .int hi] h (fun r h1 => r = bI (lo ≤ x ∧ x ≤ hi) ∧ h1 = h) := by
  refine t_X12_in d h x lo hi _ ⟨fun c => ⟨?_, rfl⟩, fun c => ⟨fun e => ⟨?_, rfl⟩, fun e => ⟨?_, rfl⟩⟩⟩
  · exact (bI_0.mpr (fun z => absurd c (Int32.not_lt.mpr z.1))).symm
  · exact (bI_0.mpr (fun z => absurd e (Int32.not_lt.mpr z.2))).symm
  · exact (bI_1.mpr ⟨Int32.not_lt.mp c, Int32.not_lt.mp e⟩).symm
theorem t_X11_within (d : Nat) (h : Hp_) (x0 : Int32) (x1 : Int32) (x2 : Int32) (K : Int32 → Hp_ → Prop) (k : (x0 < x1 → K 0 h) ∧ (¬ x0 < x1 → (x2 < x0 → K 0 h) ∧ (¬ x2 < x0 → K 1 h))) : Ci (m_X11_within (d + 0) 0 0) [.int x0, .int x1, .int x2] h K := by
  refine Ct.of (fun _ _ _ => trivial) (by decide) (Nat.le_of_ble_eq_true rfl) ?_
  show AW (m_X11_within (d + 0) 0 0) 0 0 0 [(0, .int x0), (1, .int x1), (2, .int x2)] [] h (kI K)
  refine aw_iload_n (i := 0) rfl d_X11_within_0 0 rfl ?_
  refine aw_iload_n (i := 1) rfl d_X11_within_1 1 rfl ?_
  refine aw_icmp_lt (tgt := 14) d_X11_within_2 rfl (fun c1 => ?_) (fun c1 => ?_)
  · have k := k.1 c1
    refine aw_iconst (v := 0) d_X11_within_14 ic_0 ?_
    exact aw_zret rfl rfl d_X11_within_15 ⟨Nat.le_refl _, Nat.le_refl _⟩ ⟨_, rfl, k⟩
  · have k := k.2 c1
    refine aw_iload_n (i := 0) rfl d_X11_within_5 0 rfl ?_
    refine aw_iload_n (i := 2) rfl d_X11_within_6 2 rfl ?_
    refine aw_icmp_gt (tgt := 14) d_X11_within_7 rfl (fun c2 => ?_) (fun c2 => ?_)
    · have k := k.1 c2
      refine aw_iconst (v := 0) d_X11_within_14 ic_0 ?_
      exact aw_zret rfl rfl d_X11_within_15 ⟨Nat.le_refl _, Nat.le_refl _⟩ ⟨_, rfl, k⟩
    · have k := k.2 c2
      refine aw_iconst (v := 1) d_X11_within_10 ic_1 ?_
      refine aw_goto (tgt := 15) d_X11_within_11 rfl ?_
      exact aw_zret rfl rfl d_X11_within_15 ⟨Nat.le_refl _, Nat.le_refl _⟩ ⟨_, rfl, k⟩
theorem s_X11_within (d : Nat) (h : Hp_) (x lo hi : Int32) : Ci (m_X11_within (d + 0) 0 0) [.int x, .int lo, .int hi] h (fun r h1 => r = bI (lo ≤ x ∧ x ≤ hi) ∧ h1 = h) := by
  refine t_X11_within d h x lo hi _ ⟨fun c => ⟨?_, rfl⟩, fun c => ⟨fun e => ⟨?_, rfl⟩, fun e => ⟨?_, rfl⟩⟩⟩
  · exact (bI_0.mpr (fun z => absurd c (Int32.not_lt.mpr z.1))).symm
  · exact (bI_0.mpr (fun z => absurd e (Int32.not_lt.mpr z.2))).symm
  · exact (bI_1.mpr ⟨Int32.not_lt.mp c, Int32.not_lt.mp e⟩).symm
theorem t_X12_isPlace (d : Nat) (h : Hp_) (x0 : Int32) (K : Int32 → Hp_ → Prop) (k : K (bI (0 ≤ x0 ∧ x0 ≤ 15)) h) : Ci (m_X12_isPlace (d + 1) 0 0) [.int x0] h K := by
  refine Ct.of (fun _ _ _ => trivial) (by decide) (Nat.le_of_ble_eq_true rfl) ?_
  show AW (m_X12_isPlace (d + 1) 0 0) 0 0 0 [(0, .int x0)] [] h (kI K)
  refine aw_iload_n (i := 0) rfl d_X12_isPlace_0 0 rfl ?_
  refine aw_iconst (v := 0) d_X12_isPlace_1 ic_0 ?_
  refine aw_bipush (v := 15) d_X12_isPlace_2 ib_15 ?_
  refine aw_Si [.int x0, .int 0, .int 15] [] d_X12_isPlace_4 (cS_X12_in (d + 0) 0 0) tw_2147 rfl (rr0 (Nat.le_of_ble_eq_true rfl) (Nat.le_of_ble_eq_true rfl)) (Nat.le_of_ble_eq_true rfl) xs0 (s_X12_in _ _ x0 0 15) (fun _ _ kk => ?_)
  obtain ⟨rfl, rfl⟩ := kk
  exact aw_zret rfl (bI_nar _) d_X12_isPlace_7 ⟨Nat.le_refl _, Nat.le_refl _⟩ ⟨_, rfl, k⟩
theorem s_X12_isPlace (d : Nat) (h : Hp_) (x : Int32) : Ci (m_X12_isPlace (d + 1) 0 0) [.int x] h (fun r h1 => r = bI (0 ≤ x ∧ x ≤ 15) ∧ h1 = h) := by
  exact t_X12_isPlace d h x _ ⟨rfl, rfl⟩
theorem t_X12_path (d : Nat) (h : Hp_) (w : Wf h) (x1 : Int32) (x2 : Int32) (x3 : Int32) (K : Int32 → Hp_ → Prop) (k : (¬ (0 ≤ x1 ∧ x1 ≤ 15) → K (-1) h) ∧ ((0 ≤ x1 ∧ x1 ≤ 15) → (¬ (0 ≤ x2 ∧ x2 ≤ 15) → K (-1) h) ∧ ((0 ≤ x2 ∧ x2 ≤ 15) → (x1 = x2 → K (-1) h) ∧ (¬ x1 = x2 → (¬ (1 ≤ x3 ∧ x3 ≤ 60) → K (-1) h) ∧ ((1 ≤ x3 ∧ x3 ≤ 60) → (¬ (h_i h 1 6) = 40 → vp_in (h_i h 1 6) 40 ∧ (vp_in (h_i h 1 6) 40 ∧ (vp_in (h_i h 1 6) 40 ∧ (K (((h_i h 1 6) + 1) - 1) (h_im (h_im (h_im (h_im h 200 ((h_i h 1 6) : Int32).toNatClampNeg x1) 201 ((h_i h 1 6) : Int32).toNatClampNeg x2) 202 ((h_i h 1 6) : Int32).toNatClampNeg x3) 1 6 ((h_i h 1 6) + 1)))))) ∧ ((h_i h 1 6) = 40 → K (-1) h)))))) : Ci (m_X12_path (d + 2) 0 0) [.ref 1, .int x1, .int x2, .int x3] h K := by
  refine Ct.of (fun _ _ _ => trivial) (by decide) (Nat.le_of_ble_eq_true rfl) ?_
  show AW (m_X12_path (d + 2) 0 0) 0 0 0 [(0, .ref 1), (1, .int x1), (2, .int x2), (3, .int x3)] [] h (kI K)
  refine aw_iload_n (i := 1) rfl d_X12_path_0 1 rfl ?_
  refine aw_Si [.int x1] [] d_X12_path_1 (cS_X12_isPlace (d + 1) 0 0) tw_2144 rfl (rr0 (Nat.le_of_ble_eq_true rfl) (Nat.le_of_ble_eq_true rfl)) (Nat.le_of_ble_eq_true rfl) xs0 (s_X12_isPlace _ _ x1) (fun _ _ kk => ?_)
  obtain ⟨rfl, rfl⟩ := kk
  refine aw_ifb_eq (tgt := 38) d_X12_path_4 rfl (fun c1 => ?_) (fun c1 => ?_)
  · have k := k.1 c1
    refine aw_iconst (v := (-1)) d_X12_path_38 ic_m1 ?_
    exact aw_iret rfl d_X12_path_39 ⟨Nat.le_refl _, Nat.le_refl _⟩ ⟨_, rfl, k⟩
  · have k := k.2 c1
    refine aw_iload_n (i := 2) rfl d_X12_path_7 2 rfl ?_
    refine aw_Si [.int x2] [] d_X12_path_8 (cS_X12_isPlace (d + 1) 0 0) tw_2144 rfl (rr0 (Nat.le_of_ble_eq_true rfl) (Nat.le_of_ble_eq_true rfl)) (Nat.le_of_ble_eq_true rfl) xs0 (s_X12_isPlace _ _ x2) (fun _ _ kk => ?_)
    obtain ⟨rfl, rfl⟩ := kk
    refine aw_ifb_eq (tgt := 38) d_X12_path_11 rfl (fun c2 => ?_) (fun c2 => ?_)
    · have k := k.1 c2
      refine aw_iconst (v := (-1)) d_X12_path_38 ic_m1 ?_
      exact aw_iret rfl d_X12_path_39 ⟨Nat.le_refl _, Nat.le_refl _⟩ ⟨_, rfl, k⟩
    · have k := k.2 c2
      refine aw_iload_n (i := 1) rfl d_X12_path_14 1 rfl ?_
      refine aw_iload_n (i := 2) rfl d_X12_path_15 2 rfl ?_
      refine aw_icmp_eq (tgt := 38) d_X12_path_16 rfl (fun c3 => ?_) (fun c3 => ?_)
      · have k := k.1 c3
        refine aw_iconst (v := (-1)) d_X12_path_38 ic_m1 ?_
        exact aw_iret rfl d_X12_path_39 ⟨Nat.le_refl _, Nat.le_refl _⟩ ⟨_, rfl, k⟩
      · have k := k.2 c3
        refine aw_iload_n (i := 3) rfl d_X12_path_19 3 rfl ?_
        refine aw_iconst (v := 1) d_X12_path_20 ic_1 ?_
        refine aw_bipush (v := 60) d_X12_path_21 ib_60 ?_
        refine aw_Si [.int x3, .int 1, .int 60] [] d_X12_path_23 (cS_X12_in (d + 0) 0 0) tw_2147 rfl (rr0 (Nat.le_of_ble_eq_true rfl) (Nat.le_of_ble_eq_true rfl)) (Nat.le_of_ble_eq_true rfl) xs0 (s_X12_in _ _ x3 1 60) (fun _ _ kk => ?_)
        obtain ⟨rfl, rfl⟩ := kk
        refine aw_ifb_eq (tgt := 38) d_X12_path_26 rfl (fun c4 => ?_) (fun c4 => ?_)
        · have k := k.1 c4
          refine aw_iconst (v := (-1)) d_X12_path_38 ic_m1 ?_
          exact aw_iret rfl d_X12_path_39 ⟨Nat.le_refl _, Nat.le_refl _⟩ ⟨_, rfl, k⟩
        · have k := k.2 c4
          refine aw_aload_n (i := 0) rfl d_X12_path_29 0 rfl ?_
          refine aw_geti (k0 := 6) kc_12 (ws_1 w) (Nat.le_of_ble_eq_true rfl) tw_1748 d_X12_path_30 rfl ?_
          refine aw_bipush (v := 40) d_X12_path_33 ib_40 ?_
          refine aw_icmp_ne (tgt := 40) d_X12_path_35 rfl (fun c5 => ?_) (fun c5 => ?_)
          · have k := k.1 c5
            refine aw_aload_n (i := 0) rfl d_X12_path_40 0 rfl ?_
            refine aw_getr (k0 := 2) kc_12 (ws_1 w) (Nat.le_of_ble_eq_true rfl) tw_1744 d_X12_path_41 rfl (wr_1_2 w) ?_
            refine aw_aload_n (i := 0) rfl d_X12_path_44 0 rfl ?_
            refine aw_geti (k0 := 6) kc_12 (ws_1 w) (Nat.le_of_ble_eq_true rfl) tw_1748 d_X12_path_45 rfl ?_
            refine aw_iload_n (i := 1) rfl d_X12_path_48 1 rfl ?_
            obtain ⟨b6, k⟩ := k
            refine aw_iast (ws_200 w) b6 d_X12_path_49 ?_
            refine aw_aload_n (i := 0) rfl d_X12_path_50 0 rfl ?_
            refine aw_getr (k0 := 3) kc_12 (ws_1 w) (Nat.le_of_ble_eq_true rfl) tw_1745 d_X12_path_51 rfl (wr_1_3 w) ?_
            refine aw_aload_n (i := 0) rfl d_X12_path_54 0 rfl ?_
            refine aw_geti (k0 := 6) kc_12 (ws_1 w) (Nat.le_of_ble_eq_true rfl) tw_1748 d_X12_path_55 rfl ?_
            refine aw_vi (v2 := (h_i h 1 6)) (rfl) ?_
            refine aw_iload_n (i := 2) rfl d_X12_path_58 2 rfl ?_
            obtain ⟨b7, k⟩ := k
            refine aw_iast (ws_201 w) b7 d_X12_path_59 ?_
            refine aw_aload_n (i := 0) rfl d_X12_path_60 0 rfl ?_
            refine aw_getr (k0 := 4) kc_12 (ws_1 w) (Nat.le_of_ble_eq_true rfl) tw_1746 d_X12_path_61 rfl (wr_1_4 w) ?_
            refine aw_aload_n (i := 0) rfl d_X12_path_64 0 rfl ?_
            refine aw_geti (k0 := 6) kc_12 (ws_1 w) (Nat.le_of_ble_eq_true rfl) tw_1748 d_X12_path_65 rfl ?_
            refine aw_vi (v2 := (h_i h 1 6)) (rfl) ?_
            refine aw_iload_n (i := 3) rfl d_X12_path_68 3 rfl ?_
            obtain ⟨b8, k⟩ := k
            refine aw_iast (ws_202 w) b8 d_X12_path_69 ?_
            refine aw_aload_n (i := 0) rfl d_X12_path_70 0 rfl ?_
            refine aw_dup d_X12_path_71 rfl ?_
            refine aw_geti (k0 := 6) kc_12 (ws_1 w) (Nat.le_of_ble_eq_true rfl) tw_1748 d_X12_path_72 rfl ?_
            refine aw_vi (v2 := (h_i h 1 6)) (rfl) ?_
            refine aw_iconst (v := 1) d_X12_path_75 ic_1 ?_
            refine aw_iadd d_X12_path_76 ?_
            refine aw_puti (k0 := 6) kc_12 (ws_1 w) (Nat.le_of_ble_eq_true rfl) tw_1748 d_X12_path_77 rfl rfl nf_i ?_
            refine aw_aload_n (i := 0) rfl d_X12_path_80 0 rfl ?_
            refine aw_geti (k0 := 6) kc_12 (ws_1 w) (Nat.le_of_ble_eq_true rfl) tw_1748 d_X12_path_81 rfl ?_
            refine aw_vi (v2 := ((h_i h 1 6) + 1)) (rfl) ?_
            refine aw_iconst (v := 1) d_X12_path_84 ic_1 ?_
            refine aw_isub d_X12_path_85 ?_
            exact aw_iret rfl d_X12_path_86 ⟨Nat.le_refl _, Nat.le_refl _⟩ ⟨_, rfl, k⟩
          · have k := k.2 c5
            refine aw_iconst (v := (-1)) d_X12_path_38 ic_m1 ?_
            exact aw_iret rfl d_X12_path_39 ⟨Nat.le_refl _, Nat.le_refl _⟩ ⟨_, rfl, k⟩
theorem t_X12_rankOn (d : Nat) (h : Hp_) (w : Wf h) (x1 : Int32) (x2 : Int32) (x3 : Int32) (K : Int32 → Hp_ → Prop) (k : vp_in x1 12 ∧ (AW (m_X12_rankOn (d + 0) 0 0) 0 0 14 [(0, .ref 1), (1, .int x1), (2, .int x2), (3, .int x3), (4, .int (h_i h 204 x1.toNatClampNeg)), (5, .int (-1)), (6, .int 0)] [] h (kI K))) : Ci (m_X12_rankOn (d + 0) 0 0) [.ref 1, .int x1, .int x2, .int x3] h K := by
  refine Ct.of (fun _ _ _ => trivial) (by decide) (Nat.le_of_ble_eq_true rfl) ?_
  show AW (m_X12_rankOn (d + 0) 0 0) 0 0 0 [(0, .ref 1), (1, .int x1), (2, .int x2), (3, .int x3)] [] h (kI K)
  refine aw_aload_n (i := 0) rfl d_X12_rankOn_0 0 rfl ?_
  refine aw_getr (k0 := 8) kc_12 (ws_1 w) (Nat.le_of_ble_eq_true rfl) tw_1750 d_X12_rankOn_1 rfl (wr_1_8 w) ?_
  refine aw_iload_n (i := 1) rfl d_X12_rankOn_4 1 rfl ?_
  obtain ⟨b1, k⟩ := k
  refine aw_iald (ws_204 w) b1 d_X12_rankOn_5 ?_
  refine aw_istore [(0, .ref 1), (1, .int x1), (2, .int x2), (3, .int x3), (4, .int (h_i h 204 x1.toNatClampNeg))] d_X12_rankOn_6 (Nat.le_of_ble_eq_true rfl) rfl rfl ?_
  refine aw_iconst (v := (-1)) d_X12_rankOn_8 ic_m1 ?_
  refine aw_istore [(0, .ref 1), (1, .int x1), (2, .int x2), (3, .int x3), (4, .int (h_i h 204 x1.toNatClampNeg)), (5, .int (-1))] d_X12_rankOn_9 (Nat.le_of_ble_eq_true rfl) rfl rfl ?_
  refine aw_iconst (v := 0) d_X12_rankOn_11 ic_0 ?_
  refine aw_istore [(0, .ref 1), (1, .int x1), (2, .int x2), (3, .int x3), (4, .int (h_i h 204 x1.toNatClampNeg)), (5, .int (-1)), (6, .int 0)] d_X12_rankOn_12 (Nat.le_of_ble_eq_true rfl) rfl rfl ?_
  exact k
theorem t_X12_rankOn_14 (d : Nat) (h : Hp_) (w : Wf h) (x1 : Int32) (x2 : Int32) (x3 : Int32) (x4 : Int32) (x5 : Int32) (x6 : Int32) (K : Int32 → Hp_ → Prop) (k : ((h_i h 1 29) ≤ x6 → K x4 h) ∧ (¬ (h_i h 1 29) ≤ x6 → vp_in x6 40 ∧ ((¬ (h_i h 221 x6.toNatClampNeg) = x1 → AW (m_X12_rankOn (d + 0) 0 0) 0 0 14 [(0, .ref 1), (1, .int x1), (2, .int x2), (3, .int x3), (4, .int x4), (5, .int x5), (6, .int (x6 + 1))] [] h (kI K)) ∧ ((h_i h 221 x6.toNatClampNeg) = x1 → vp_in x6 40 ∧ ((x3 < (h_i h 224 x6.toNatClampNeg) → AW (m_X12_rankOn (d + 0) 0 0) 0 0 14 [(0, .ref 1), (1, .int x1), (2, .int x2), (3, .int x3), (4, .int x4), (5, .int x5), (6, .int (x6 + 1))] [] h (kI K)) ∧ (¬ x3 < (h_i h 224 x6.toNatClampNeg) → vp_in x6 40 ∧ ((x2 < (h_i h 223 x6.toNatClampNeg) → AW (m_X12_rankOn (d + 0) 0 0) 0 0 14 [(0, .ref 1), (1, .int x1), (2, .int x2), (3, .int x3), (4, .int x4), (5, .int x5), (6, .int (x6 + 1))] [] h (kI K)) ∧ (¬ x2 < (h_i h 223 x6.toNatClampNeg) → vp_in x6 40 ∧ (((h_i h 223 x6.toNatClampNeg) < x5 → AW (m_X12_rankOn (d + 0) 0 0) 0 0 14 [(0, .ref 1), (1, .int x1), (2, .int x2), (3, .int x3), (4, .int x4), (5, .int x5), (6, .int (x6 + 1))] [] h (kI K)) ∧ (¬ (h_i h 223 x6.toNatClampNeg) < x5 → vp_in x6 40 ∧ (vp_in x6 40 ∧ (AW (m_X12_rankOn (d + 0) 0 0) 0 0 14 [(0, .ref 1), (1, .int x1), (2, .int x2), (3, .int x3), (4, .int (h_i h 222 x6.toNatClampNeg)), (5, .int (h_i h 223 x6.toNatClampNeg)), (6, .int (x6 + 1))] [] h (kI K))))))))))))) : AW (m_X12_rankOn (d + 0) 0 0) 0 0 14 [(0, .ref 1), (1, .int x1), (2, .int x2), (3, .int x3), (4, .int x4), (5, .int x5), (6, .int x6)] [] h (kI K) := by
  refine aw_iload d_X12_rankOn_14 6 rfl ?_
  refine aw_aload_n (i := 0) rfl d_X12_rankOn_16 0 rfl ?_
  refine aw_geti (k0 := 29) kc_12 (ws_1 w) (Nat.le_of_ble_eq_true rfl) tw_1771 d_X12_rankOn_17 rfl ?_
  refine aw_icmp_ge (tgt := 92) d_X12_rankOn_20 rfl (fun c2 => ?_) (fun c2 => ?_)
  · have k := k.1 c2
    refine aw_iload d_X12_rankOn_92 4 rfl ?_
    exact aw_iret rfl d_X12_rankOn_94 ⟨Nat.le_refl _, Nat.le_refl _⟩ ⟨_, rfl, k⟩
  · have k := k.2 c2
    refine aw_aload_n (i := 0) rfl d_X12_rankOn_23 0 rfl ?_
    refine aw_getr (k0 := 25) kc_12 (ws_1 w) (Nat.le_of_ble_eq_true rfl) tw_1767 d_X12_rankOn_24 rfl (wr_1_25 w) ?_
    refine aw_iload d_X12_rankOn_27 6 rfl ?_
    obtain ⟨b3, k⟩ := k
    refine aw_iald (ws_221 w) b3 d_X12_rankOn_29 ?_
    refine aw_iload_n (i := 1) rfl d_X12_rankOn_30 1 rfl ?_
    refine aw_icmp_ne (tgt := 86) d_X12_rankOn_31 rfl (fun c4 => ?_) (fun c4 => ?_)
    · have k := k.1 c4
      refine aw_iinc (v := (x6 + 1)) [(0, .ref 1), (1, .int x1), (2, .int x2), (3, .int x3), (4, .int x4), (5, .int x5), (6, .int (x6 + 1))] d_X12_rankOn_86 6 rfl rfl (Nat.le_of_ble_eq_true rfl) rfl rfl ?_
      refine aw_goto (tgt := 14) d_X12_rankOn_89 rfl ?_
      exact k
    · have k := k.2 c4
      refine aw_aload_n (i := 0) rfl d_X12_rankOn_34 0 rfl ?_
      refine aw_getr (k0 := 28) kc_12 (ws_1 w) (Nat.le_of_ble_eq_true rfl) tw_1770 d_X12_rankOn_35 rfl (wr_1_28 w) ?_
      refine aw_iload d_X12_rankOn_38 6 rfl ?_
      obtain ⟨b5, k⟩ := k
      refine aw_iald (ws_224 w) b5 d_X12_rankOn_40 ?_
      refine aw_iload_n (i := 3) rfl d_X12_rankOn_41 3 rfl ?_
      refine aw_icmp_gt (tgt := 86) d_X12_rankOn_42 rfl (fun c6 => ?_) (fun c6 => ?_)
      · have k := k.1 c6
        refine aw_iinc (v := (x6 + 1)) [(0, .ref 1), (1, .int x1), (2, .int x2), (3, .int x3), (4, .int x4), (5, .int x5), (6, .int (x6 + 1))] d_X12_rankOn_86 6 rfl rfl (Nat.le_of_ble_eq_true rfl) rfl rfl ?_
        refine aw_goto (tgt := 14) d_X12_rankOn_89 rfl ?_
        exact k
      · have k := k.2 c6
        refine aw_aload_n (i := 0) rfl d_X12_rankOn_45 0 rfl ?_
        refine aw_getr (k0 := 27) kc_12 (ws_1 w) (Nat.le_of_ble_eq_true rfl) tw_1769 d_X12_rankOn_46 rfl (wr_1_27 w) ?_
        refine aw_iload d_X12_rankOn_49 6 rfl ?_
        obtain ⟨b7, k⟩ := k
        refine aw_iald (ws_223 w) b7 d_X12_rankOn_51 ?_
        refine aw_iload_n (i := 2) rfl d_X12_rankOn_52 2 rfl ?_
        refine aw_icmp_gt (tgt := 86) d_X12_rankOn_53 rfl (fun c8 => ?_) (fun c8 => ?_)
        · have k := k.1 c8
          refine aw_iinc (v := (x6 + 1)) [(0, .ref 1), (1, .int x1), (2, .int x2), (3, .int x3), (4, .int x4), (5, .int x5), (6, .int (x6 + 1))] d_X12_rankOn_86 6 rfl rfl (Nat.le_of_ble_eq_true rfl) rfl rfl ?_
          refine aw_goto (tgt := 14) d_X12_rankOn_89 rfl ?_
          exact k
        · have k := k.2 c8
          refine aw_aload_n (i := 0) rfl d_X12_rankOn_56 0 rfl ?_
          refine aw_getr (k0 := 27) kc_12 (ws_1 w) (Nat.le_of_ble_eq_true rfl) tw_1769 d_X12_rankOn_57 rfl (wr_1_27 w) ?_
          refine aw_iload d_X12_rankOn_60 6 rfl ?_
          obtain ⟨b9, k⟩ := k
          refine aw_iald (ws_223 w) b9 d_X12_rankOn_62 ?_
          refine aw_iload d_X12_rankOn_63 5 rfl ?_
          refine aw_icmp_lt (tgt := 86) d_X12_rankOn_65 rfl (fun c10 => ?_) (fun c10 => ?_)
          · have k := k.1 c10
            refine aw_iinc (v := (x6 + 1)) [(0, .ref 1), (1, .int x1), (2, .int x2), (3, .int x3), (4, .int x4), (5, .int x5), (6, .int (x6 + 1))] d_X12_rankOn_86 6 rfl rfl (Nat.le_of_ble_eq_true rfl) rfl rfl ?_
            refine aw_goto (tgt := 14) d_X12_rankOn_89 rfl ?_
            exact k
          · have k := k.2 c10
            refine aw_aload_n (i := 0) rfl d_X12_rankOn_68 0 rfl ?_
            refine aw_getr (k0 := 26) kc_12 (ws_1 w) (Nat.le_of_ble_eq_true rfl) tw_1768 d_X12_rankOn_69 rfl (wr_1_26 w) ?_
            refine aw_iload d_X12_rankOn_72 6 rfl ?_
            obtain ⟨b11, k⟩ := k
            refine aw_iald (ws_222 w) b11 d_X12_rankOn_74 ?_
            refine aw_istore [(0, .ref 1), (1, .int x1), (2, .int x2), (3, .int x3), (4, .int (h_i h 222 x6.toNatClampNeg)), (5, .int x5), (6, .int x6)] d_X12_rankOn_75 (Nat.le_of_ble_eq_true rfl) rfl rfl ?_
            refine aw_aload_n (i := 0) rfl d_X12_rankOn_77 0 rfl ?_
            refine aw_getr (k0 := 27) kc_12 (ws_1 w) (Nat.le_of_ble_eq_true rfl) tw_1769 d_X12_rankOn_78 rfl (wr_1_27 w) ?_
            refine aw_iload d_X12_rankOn_81 6 rfl ?_
            obtain ⟨b12, k⟩ := k
            refine aw_iald (ws_223 w) b12 d_X12_rankOn_83 ?_
            refine aw_istore [(0, .ref 1), (1, .int x1), (2, .int x2), (3, .int x3), (4, .int (h_i h 222 x6.toNatClampNeg)), (5, .int (h_i h 223 x6.toNatClampNeg)), (6, .int x6)] d_X12_rankOn_84 (Nat.le_of_ble_eq_true rfl) rfl rfl ?_
            refine aw_iinc (v := (x6 + 1)) [(0, .ref 1), (1, .int x1), (2, .int x2), (3, .int x3), (4, .int (h_i h 222 x6.toNatClampNeg)), (5, .int (h_i h 223 x6.toNatClampNeg)), (6, .int (x6 + 1))] d_X12_rankOn_86 6 rfl rfl (Nat.le_of_ble_eq_true rfl) rfl rfl ?_
            refine aw_goto (tgt := 14) d_X12_rankOn_89 rfl ?_
            exact k
theorem t_X12_walkOf (d : Nat) (h : Hp_) (x1 : Int32) (x2 : Int32) (K : Int32 → Hp_ → Prop) (k : AW (m_X12_walkOf (d + 0) 0 0) 0 0 2 [(0, .ref 1), (1, .int x1), (2, .int x2), (3, .int 0)] [] h (kI K)) : Ci (m_X12_walkOf (d + 0) 0 0) [.ref 1, .int x1, .int x2] h K := by
  refine Ct.of (fun _ _ _ => trivial) (by decide) (Nat.le_of_ble_eq_true rfl) ?_
  show AW (m_X12_walkOf (d + 0) 0 0) 0 0 0 [(0, .ref 1), (1, .int x1), (2, .int x2)] [] h (kI K)
  refine aw_iconst (v := 0) d_X12_walkOf_0 ic_0 ?_
  refine aw_istore_n (i := 3) rfl [(0, .ref 1), (1, .int x1), (2, .int x2), (3, .int 0)] d_X12_walkOf_1 (Nat.le_of_ble_eq_true rfl) rfl rfl ?_
  exact k
theorem t_X12_walkOf_2 (d : Nat) (h : Hp_) (w : Wf h) (x1 : Int32) (x2 : Int32) (x3 : Int32) (K : Int32 → Hp_ → Prop) (k : (16 ≤ x3 → AW (m_X12_walkOf (d + 0) 0 0) 0 0 34 [(0, .ref 1), (2, .int x2), (3, .int 1)] [] h (kI K)) ∧ (¬ 16 ≤ x3 → (¬ x3 = x1 → vp_in x3 16 ∧ (AW (m_X12_walkOf (d + 0) 0 0) 0 0 2 [(0, .ref 1), (1, .int x1), (2, .int x2), (3, .int (x3 + 1))] [] (h_im h 203 x3.toNatClampNeg 100000) (kI K))) ∧ (x3 = x1 → vp_in x3 16 ∧ (AW (m_X12_walkOf (d + 0) 0 0) 0 0 2 [(0, .ref 1), (1, .int x1), (2, .int x2), (3, .int (x3 + 1))] [] (h_im h 203 x3.toNatClampNeg 0) (kI K))))) : AW (m_X12_walkOf (d + 0) 0 0) 0 0 2 [(0, .ref 1), (1, .int x1), (2, .int x2), (3, .int x3)] [] h (kI K) := by
  refine aw_iload_n (i := 3) rfl d_X12_walkOf_2 3 rfl ?_
  refine aw_bipush (v := 16) d_X12_walkOf_3 ib_16 ?_
  refine aw_icmp_ge (tgt := 32) d_X12_walkOf_5 rfl (fun c1 => ?_) (fun c1 => ?_)
  · have k := k.1 c1
    refine aw_iconst (v := 1) d_X12_walkOf_32 ic_1 ?_
    refine aw_istore_n (i := 3) rfl [(0, .ref 1), (1, .int x1), (2, .int x2), (3, .int 1)] d_X12_walkOf_33 (Nat.le_of_ble_eq_true rfl) rfl rfl ?_
    exact aw_lvp [0, 2, 3] [(0, .ref 1), (2, .int x2), (3, .int 1)] rfl k
  · have k := k.2 c1
    refine aw_aload_n (i := 0) rfl d_X12_walkOf_8 0 rfl ?_
    refine aw_getr (k0 := 5) kc_12 (ws_1 w) (Nat.le_of_ble_eq_true rfl) tw_1747 d_X12_walkOf_9 rfl (wr_1_5 w) ?_
    refine aw_iload_n (i := 3) rfl d_X12_walkOf_12 3 rfl ?_
    refine aw_iload_n (i := 3) rfl d_X12_walkOf_13 3 rfl ?_
    refine aw_iload_n (i := 1) rfl d_X12_walkOf_14 1 rfl ?_
    refine aw_icmp_ne (tgt := 22) d_X12_walkOf_15 rfl (fun c2 => ?_) (fun c2 => ?_)
    · have k := k.1 c2
      refine aw_ldcw (v := 100000) d_X12_walkOf_22 tw_2158 ?_
      obtain ⟨b3, k⟩ := k
      refine aw_iast (ws_203 w) b3 d_X12_walkOf_25 ?_
      refine aw_iinc (v := (x3 + 1)) [(0, .ref 1), (1, .int x1), (2, .int x2), (3, .int (x3 + 1))] d_X12_walkOf_26 3 rfl rfl (Nat.le_of_ble_eq_true rfl) rfl rfl ?_
      refine aw_goto (tgt := 2) d_X12_walkOf_29 rfl ?_
      exact k
    · have k := k.2 c2
      refine aw_iconst (v := 0) d_X12_walkOf_18 ic_0 ?_
      refine aw_goto (tgt := 25) d_X12_walkOf_19 rfl ?_
      obtain ⟨b4, k⟩ := k
      refine aw_iast (ws_203 w) b4 d_X12_walkOf_25 ?_
      refine aw_iinc (v := (x3 + 1)) [(0, .ref 1), (1, .int x1), (2, .int x2), (3, .int (x3 + 1))] d_X12_walkOf_26 3 rfl rfl (Nat.le_of_ble_eq_true rfl) rfl rfl ?_
      refine aw_goto (tgt := 2) d_X12_walkOf_29 rfl ?_
      exact k
theorem t_X12_walkOf_34 (d : Nat) (h : Hp_) (w : Wf h) (x2 : Int32) (x3 : Int32) (K : Int32 → Hp_ → Prop) (k : (x3 = 0 → vp_in x2 16 ∧ (((h_i h 203 x2.toNatClampNeg) < 100000 → vp_in x2 16 ∧ (K (h_i h 203 x2.toNatClampNeg) h)) ∧ (¬ (h_i h 203 x2.toNatClampNeg) < 100000 → K (-1) h))) ∧ (¬ x3 = 0 → AW (m_X12_walkOf (d + 0) 0 0) 0 0 43 [(0, .ref 1), (2, .int x2), (3, .int 0), (4, .int 0)] [] h (kI K))) : AW (m_X12_walkOf (d + 0) 0 0) 0 0 34 [(0, .ref 1), (2, .int x2), (3, .int x3)] [] h (kI K) := by
  refine aw_iload_n (i := 3) rfl d_X12_walkOf_34 2 rfl ?_
  refine aw_if_eq (tgt := 177) d_X12_walkOf_35 rfl (fun c5 => ?_) (fun c5 => ?_)
  · have k := k.1 c5
    refine aw_aload_n (i := 0) rfl d_X12_walkOf_177 0 rfl ?_
    refine aw_getr (k0 := 5) kc_12 (ws_1 w) (Nat.le_of_ble_eq_true rfl) tw_1747 d_X12_walkOf_178 rfl (wr_1_5 w) ?_
    refine aw_iload_n (i := 2) rfl d_X12_walkOf_181 1 rfl ?_
    obtain ⟨b6, k⟩ := k
    refine aw_iald (ws_203 w) b6 d_X12_walkOf_182 ?_
    refine aw_ldcw (v := 100000) d_X12_walkOf_183 tw_2158 ?_
    refine aw_icmp_lt (tgt := 193) d_X12_walkOf_186 rfl (fun c7 => ?_) (fun c7 => ?_)
    · have k := k.1 c7
      refine aw_aload_n (i := 0) rfl d_X12_walkOf_193 0 rfl ?_
      refine aw_getr (k0 := 5) kc_12 (ws_1 w) (Nat.le_of_ble_eq_true rfl) tw_1747 d_X12_walkOf_194 rfl (wr_1_5 w) ?_
      refine aw_iload_n (i := 2) rfl d_X12_walkOf_197 1 rfl ?_
      obtain ⟨b8, k⟩ := k
      refine aw_iald (ws_203 w) b8 d_X12_walkOf_198 ?_
      exact aw_iret rfl d_X12_walkOf_199 ⟨Nat.le_refl _, Nat.le_refl _⟩ ⟨_, rfl, k⟩
    · have k := k.2 c7
      refine aw_iconst (v := (-1)) d_X12_walkOf_189 ic_m1 ?_
      refine aw_goto (tgt := 199) d_X12_walkOf_190 rfl ?_
      exact aw_iret rfl d_X12_walkOf_199 ⟨Nat.le_refl _, Nat.le_refl _⟩ ⟨_, rfl, k⟩
  · have k := k.2 c5
    refine aw_iconst (v := 0) d_X12_walkOf_38 ic_0 ?_
    refine aw_istore_n (i := 3) rfl [(0, .ref 1), (2, .int x2), (3, .int 0)] d_X12_walkOf_39 (Nat.le_of_ble_eq_true rfl) rfl rfl ?_
    refine aw_iconst (v := 0) d_X12_walkOf_40 ic_0 ?_
    refine aw_istore [(0, .ref 1), (2, .int x2), (3, .int 0), (4, .int 0)] d_X12_walkOf_41 (Nat.le_of_ble_eq_true rfl) rfl rfl ?_
    exact k
theorem t_X12_walkOf_43 (d : Nat) (h : Hp_) (w : Wf h) (x2 : Int32) (x3 : Int32) (x4 : Int32) (K : Int32 → Hp_ → Prop) (k : ((h_i h 1 6) ≤ x4 → AW (m_X12_walkOf (d + 0) 0 0) 0 0 34 [(0, .ref 1), (2, .int x2), (3, .int x3)] [] h (kI K)) ∧ (¬ (h_i h 1 6) ≤ x4 → vp_in x4 40 ∧ (vp_in x4 40 ∧ (vp_in (h_i h 200 x4.toNatClampNeg) 16 ∧ (vp_in x4 40 ∧ (vp_in (h_i h 201 x4.toNatClampNeg) 16 ∧ (((h_i h 203 ((h_i h 201 x4.toNatClampNeg) : Int32).toNatClampNeg) ≤ ((h_i h 203 ((h_i h 200 x4.toNatClampNeg) : Int32).toNatClampNeg) + (h_i h 202 x4.toNatClampNeg)) → vp_in (h_i h 201 x4.toNatClampNeg) 16 ∧ (vp_in x4 40 ∧ (vp_in (h_i h 200 x4.toNatClampNeg) 16 ∧ (((h_i h 203 ((h_i h 200 x4.toNatClampNeg) : Int32).toNatClampNeg) ≤ ((h_i h 203 ((h_i h 201 x4.toNatClampNeg) : Int32).toNatClampNeg) + (h_i h 202 x4.toNatClampNeg)) → AW (m_X12_walkOf (d + 0) 0 0) 0 0 43 [(0, .ref 1), (2, .int x2), (3, .int x3), (4, .int (x4 + 1))] [] h (kI K)) ∧ (¬ (h_i h 203 ((h_i h 200 x4.toNatClampNeg) : Int32).toNatClampNeg) ≤ ((h_i h 203 ((h_i h 201 x4.toNatClampNeg) : Int32).toNatClampNeg) + (h_i h 202 x4.toNatClampNeg)) → vp_in (h_i h 201 x4.toNatClampNeg) 16 ∧ (vp_in x4 40 ∧ (vp_in (h_i h 200 x4.toNatClampNeg) 16 ∧ (AW (m_X12_walkOf (d + 0) 0 0) 0 0 43 [(0, .ref 1), (2, .int x2), (3, .int 1), (4, .int (x4 + 1))] [] (h_im h 203 ((h_i h 200 x4.toNatClampNeg) : Int32).toNatClampNeg ((h_i h 203 ((h_i h 201 x4.toNatClampNeg) : Int32).toNatClampNeg) + (h_i h 202 x4.toNatClampNeg))) (kI K))))))))) ∧ (¬ (h_i h 203 ((h_i h 201 x4.toNatClampNeg) : Int32).toNatClampNeg) ≤ ((h_i h 203 ((h_i h 200 x4.toNatClampNeg) : Int32).toNatClampNeg) + (h_i h 202 x4.toNatClampNeg)) → vp_in (h_i h 200 x4.toNatClampNeg) 16 ∧ (vp_in x4 40 ∧ (vp_in (h_i h 201 x4.toNatClampNeg) 16 ∧ (vp_in (h_i h 201 x4.toNatClampNeg) 16 ∧ (vp_in x4 40 ∧ (vp_in (h_i h 200 x4.toNatClampNeg) 16 ∧ (((h_i (h_im h 203 ((h_i h 201 x4.toNatClampNeg) : Int32).toNatClampNeg ((h_i h 203 ((h_i h 200 x4.toNatClampNeg) : Int32).toNatClampNeg) + (h_i h 202 x4.toNatClampNeg))) 203 ((h_i h 200 x4.toNatClampNeg) : Int32).toNatClampNeg) ≤ (((h_i h 203 ((h_i h 200 x4.toNatClampNeg) : Int32).toNatClampNeg) + (h_i h 202 x4.toNatClampNeg)) + (h_i h 202 x4.toNatClampNeg)) → AW (m_X12_walkOf (d + 0) 0 0) 0 0 43 [(0, .ref 1), (2, .int x2), (3, .int 1), (4, .int (x4 + 1))] [] (h_im h 203 ((h_i h 201 x4.toNatClampNeg) : Int32).toNatClampNeg ((h_i h 203 ((h_i h 200 x4.toNatClampNeg) : Int32).toNatClampNeg) + (h_i h 202 x4.toNatClampNeg))) (kI K)) ∧ (¬ (h_i (h_im h 203 ((h_i h 201 x4.toNatClampNeg) : Int32).toNatClampNeg ((h_i h 203 ((h_i h 200 x4.toNatClampNeg) : Int32).toNatClampNeg) + (h_i h 202 x4.toNatClampNeg))) 203 ((h_i h 200 x4.toNatClampNeg) : Int32).toNatClampNeg) ≤ (((h_i h 203 ((h_i h 200 x4.toNatClampNeg) : Int32).toNatClampNeg) + (h_i h 202 x4.toNatClampNeg)) + (h_i h 202 x4.toNatClampNeg)) → vp_in (h_i h 201 x4.toNatClampNeg) 16 ∧ (vp_in x4 40 ∧ (vp_in (h_i h 200 x4.toNatClampNeg) 16 ∧ (AW (m_X12_walkOf (d + 0) 0 0) 0 0 43 [(0, .ref 1), (2, .int x2), (3, .int 1), (4, .int (x4 + 1))] [] (h_im (h_im h 203 ((h_i h 201 x4.toNatClampNeg) : Int32).toNatClampNeg ((h_i h 203 ((h_i h 200 x4.toNatClampNeg) : Int32).toNatClampNeg) + (h_i h 202 x4.toNatClampNeg))) 203 ((h_i h 200 x4.toNatClampNeg) : Int32).toNatClampNeg (((h_i h 203 ((h_i h 200 x4.toNatClampNeg) : Int32).toNatClampNeg) + (h_i h 202 x4.toNatClampNeg)) + (h_i h 202 x4.toNatClampNeg))) (kI K))))))))))))))))))) : AW (m_X12_walkOf (d + 0) 0 0) 0 0 43 [(0, .ref 1), (2, .int x2), (3, .int x3), (4, .int x4)] [] h (kI K) := by
  refine aw_iload d_X12_walkOf_43 3 rfl ?_
  refine aw_aload_n (i := 0) rfl d_X12_walkOf_45 0 rfl ?_
  refine aw_geti (k0 := 6) kc_12 (ws_1 w) (Nat.le_of_ble_eq_true rfl) tw_1748 d_X12_walkOf_46 rfl ?_
  refine aw_icmp_ge (tgt := 174) d_X12_walkOf_49 rfl (fun c9 => ?_) (fun c9 => ?_)
  · have k := k.1 c9
    refine aw_goto (tgt := 34) d_X12_walkOf_174 rfl ?_
    exact aw_lvp [0, 1, 2] [(0, .ref 1), (2, .int x2), (3, .int x3)] rfl k
  · have k := k.2 c9
    refine aw_aload_n (i := 0) rfl d_X12_walkOf_52 0 rfl ?_
    refine aw_getr (k0 := 2) kc_12 (ws_1 w) (Nat.le_of_ble_eq_true rfl) tw_1744 d_X12_walkOf_53 rfl (wr_1_2 w) ?_
    refine aw_iload d_X12_walkOf_56 3 rfl ?_
    obtain ⟨b10, k⟩ := k
    refine aw_iald (ws_200 w) b10 d_X12_walkOf_58 ?_
    refine aw_istore [(0, .ref 1), (2, .int x2), (3, .int x3), (4, .int x4), (5, .int (h_i h 200 x4.toNatClampNeg))] d_X12_walkOf_59 (Nat.le_of_ble_eq_true rfl) rfl rfl ?_
    refine aw_aload_n (i := 0) rfl d_X12_walkOf_61 0 rfl ?_
    refine aw_getr (k0 := 3) kc_12 (ws_1 w) (Nat.le_of_ble_eq_true rfl) tw_1745 d_X12_walkOf_62 rfl (wr_1_3 w) ?_
    refine aw_iload d_X12_walkOf_65 3 rfl ?_
    obtain ⟨b11, k⟩ := k
    refine aw_iald (ws_201 w) b11 d_X12_walkOf_67 ?_
    refine aw_istore [(0, .ref 1), (2, .int x2), (3, .int x3), (4, .int x4), (5, .int (h_i h 200 x4.toNatClampNeg)), (6, .int (h_i h 201 x4.toNatClampNeg))] d_X12_walkOf_68 (Nat.le_of_ble_eq_true rfl) rfl rfl ?_
    refine aw_aload_n (i := 0) rfl d_X12_walkOf_70 0 rfl ?_
    refine aw_getr (k0 := 5) kc_12 (ws_1 w) (Nat.le_of_ble_eq_true rfl) tw_1747 d_X12_walkOf_71 rfl (wr_1_5 w) ?_
    refine aw_iload d_X12_walkOf_74 4 rfl ?_
    obtain ⟨b12, k⟩ := k
    refine aw_iald (ws_203 w) b12 d_X12_walkOf_76 ?_
    refine aw_aload_n (i := 0) rfl d_X12_walkOf_77 0 rfl ?_
    refine aw_getr (k0 := 4) kc_12 (ws_1 w) (Nat.le_of_ble_eq_true rfl) tw_1746 d_X12_walkOf_78 rfl (wr_1_4 w) ?_
    refine aw_iload d_X12_walkOf_81 3 rfl ?_
    obtain ⟨b13, k⟩ := k
    refine aw_iald (ws_202 w) b13 d_X12_walkOf_83 ?_
    refine aw_iadd d_X12_walkOf_84 ?_
    refine aw_aload_n (i := 0) rfl d_X12_walkOf_85 0 rfl ?_
    refine aw_getr (k0 := 5) kc_12 (ws_1 w) (Nat.le_of_ble_eq_true rfl) tw_1747 d_X12_walkOf_86 rfl (wr_1_5 w) ?_
    refine aw_iload d_X12_walkOf_89 5 rfl ?_
    obtain ⟨b14, k⟩ := k
    refine aw_iald (ws_203 w) b14 d_X12_walkOf_91 ?_
    refine aw_icmp_ge (tgt := 119) d_X12_walkOf_92 rfl (fun c15 => ?_) (fun c15 => ?_)
    · have k := k.1 c15
      refine aw_aload_n (i := 0) rfl d_X12_walkOf_119 0 rfl ?_
      refine aw_getr (k0 := 5) kc_12 (ws_1 w) (Nat.le_of_ble_eq_true rfl) tw_1747 d_X12_walkOf_120 rfl (wr_1_5 w) ?_
      refine aw_iload d_X12_walkOf_123 5 rfl ?_
      obtain ⟨b16, k⟩ := k
      refine aw_iald (ws_203 w) b16 d_X12_walkOf_125 ?_
      refine aw_aload_n (i := 0) rfl d_X12_walkOf_126 0 rfl ?_
      refine aw_getr (k0 := 4) kc_12 (ws_1 w) (Nat.le_of_ble_eq_true rfl) tw_1746 d_X12_walkOf_127 rfl (wr_1_4 w) ?_
      refine aw_iload d_X12_walkOf_130 3 rfl ?_
      obtain ⟨b17, k⟩ := k
      refine aw_iald (ws_202 w) b17 d_X12_walkOf_132 ?_
      refine aw_iadd d_X12_walkOf_133 ?_
      refine aw_aload_n (i := 0) rfl d_X12_walkOf_134 0 rfl ?_
      refine aw_getr (k0 := 5) kc_12 (ws_1 w) (Nat.le_of_ble_eq_true rfl) tw_1747 d_X12_walkOf_135 rfl (wr_1_5 w) ?_
      refine aw_iload d_X12_walkOf_138 4 rfl ?_
      obtain ⟨b18, k⟩ := k
      refine aw_iald (ws_203 w) b18 d_X12_walkOf_140 ?_
      refine aw_icmp_ge (tgt := 168) d_X12_walkOf_141 rfl (fun c19 => ?_) (fun c19 => ?_)
      · have k := k.1 c19
        refine aw_iinc (v := (x4 + 1)) [(0, .ref 1), (2, .int x2), (3, .int x3), (4, .int (x4 + 1)), (5, .int (h_i h 200 x4.toNatClampNeg)), (6, .int (h_i h 201 x4.toNatClampNeg))] d_X12_walkOf_168 3 rfl rfl (Nat.le_of_ble_eq_true rfl) rfl rfl ?_
        refine aw_goto (tgt := 43) d_X12_walkOf_171 rfl ?_
        exact aw_lvp [0, 1, 2, 3] [(0, .ref 1), (2, .int x2), (3, .int x3), (4, .int (x4 + 1))] rfl k
      · have k := k.2 c19
        refine aw_aload_n (i := 0) rfl d_X12_walkOf_144 0 rfl ?_
        refine aw_getr (k0 := 5) kc_12 (ws_1 w) (Nat.le_of_ble_eq_true rfl) tw_1747 d_X12_walkOf_145 rfl (wr_1_5 w) ?_
        refine aw_iload d_X12_walkOf_148 4 rfl ?_
        refine aw_aload_n (i := 0) rfl d_X12_walkOf_150 0 rfl ?_
        refine aw_getr (k0 := 5) kc_12 (ws_1 w) (Nat.le_of_ble_eq_true rfl) tw_1747 d_X12_walkOf_151 rfl (wr_1_5 w) ?_
        refine aw_iload d_X12_walkOf_154 5 rfl ?_
        obtain ⟨b20, k⟩ := k
        refine aw_iald (ws_203 w) b20 d_X12_walkOf_156 ?_
        refine aw_aload_n (i := 0) rfl d_X12_walkOf_157 0 rfl ?_
        refine aw_getr (k0 := 4) kc_12 (ws_1 w) (Nat.le_of_ble_eq_true rfl) tw_1746 d_X12_walkOf_158 rfl (wr_1_4 w) ?_
        refine aw_iload d_X12_walkOf_161 3 rfl ?_
        obtain ⟨b21, k⟩ := k
        refine aw_iald (ws_202 w) b21 d_X12_walkOf_163 ?_
        refine aw_iadd d_X12_walkOf_164 ?_
        obtain ⟨b22, k⟩ := k
        refine aw_iast (ws_203 w) b22 d_X12_walkOf_165 ?_
        refine aw_iconst (v := 1) d_X12_walkOf_166 ic_1 ?_
        refine aw_istore_n (i := 3) rfl [(0, .ref 1), (2, .int x2), (3, .int 1), (4, .int x4), (5, .int (h_i h 200 x4.toNatClampNeg)), (6, .int (h_i h 201 x4.toNatClampNeg))] d_X12_walkOf_167 (Nat.le_of_ble_eq_true rfl) rfl rfl ?_
        refine aw_iinc (v := (x4 + 1)) [(0, .ref 1), (2, .int x2), (3, .int 1), (4, .int (x4 + 1)), (5, .int (h_i h 200 x4.toNatClampNeg)), (6, .int (h_i h 201 x4.toNatClampNeg))] d_X12_walkOf_168 3 rfl rfl (Nat.le_of_ble_eq_true rfl) rfl rfl ?_
        refine aw_goto (tgt := 43) d_X12_walkOf_171 rfl ?_
        exact aw_lvp [0, 1, 2, 3] [(0, .ref 1), (2, .int x2), (3, .int 1), (4, .int (x4 + 1))] rfl k
    · have k := k.2 c15
      refine aw_aload_n (i := 0) rfl d_X12_walkOf_95 0 rfl ?_
      refine aw_getr (k0 := 5) kc_12 (ws_1 w) (Nat.le_of_ble_eq_true rfl) tw_1747 d_X12_walkOf_96 rfl (wr_1_5 w) ?_
      refine aw_iload d_X12_walkOf_99 5 rfl ?_
      refine aw_aload_n (i := 0) rfl d_X12_walkOf_101 0 rfl ?_
      refine aw_getr (k0 := 5) kc_12 (ws_1 w) (Nat.le_of_ble_eq_true rfl) tw_1747 d_X12_walkOf_102 rfl (wr_1_5 w) ?_
      refine aw_iload d_X12_walkOf_105 4 rfl ?_
      obtain ⟨b23, k⟩ := k
      refine aw_iald (ws_203 w) b23 d_X12_walkOf_107 ?_
      refine aw_aload_n (i := 0) rfl d_X12_walkOf_108 0 rfl ?_
      refine aw_getr (k0 := 4) kc_12 (ws_1 w) (Nat.le_of_ble_eq_true rfl) tw_1746 d_X12_walkOf_109 rfl (wr_1_4 w) ?_
      refine aw_iload d_X12_walkOf_112 3 rfl ?_
      obtain ⟨b24, k⟩ := k
      refine aw_iald (ws_202 w) b24 d_X12_walkOf_114 ?_
      refine aw_iadd d_X12_walkOf_115 ?_
      obtain ⟨b25, k⟩ := k
      refine aw_iast (ws_203 w) b25 d_X12_walkOf_116 ?_
      refine aw_iconst (v := 1) d_X12_walkOf_117 ic_1 ?_
      refine aw_istore_n (i := 3) rfl [(0, .ref 1), (2, .int x2), (3, .int 1), (4, .int x4), (5, .int (h_i h 200 x4.toNatClampNeg)), (6, .int (h_i h 201 x4.toNatClampNeg))] d_X12_walkOf_118 (Nat.le_of_ble_eq_true rfl) rfl rfl ?_
      refine aw_aload_n (i := 0) rfl d_X12_walkOf_119 0 rfl ?_
      refine aw_getr (k0 := 5) kc_12 (ws_1 w) (Nat.le_of_ble_eq_true rfl) tw_1747 d_X12_walkOf_120 rfl (wr_1_5 w) ?_
      refine aw_iload d_X12_walkOf_123 5 rfl ?_
      obtain ⟨b26, k⟩ := k
      refine aw_iald (ws_203 w) b26 d_X12_walkOf_125 ?_
      refine aw_vi (v2 := ((h_i h 203 ((h_i h 200 x4.toNatClampNeg) : Int32).toNatClampNeg) + (h_i h 202 x4.toNatClampNeg))) (hi_s h 203 ((h_i h 201 x4.toNatClampNeg) : Int32).toNatClampNeg ((h_i h 203 ((h_i h 200 x4.toNatClampNeg) : Int32).toNatClampNeg) + (h_i h 202 x4.toNatClampNeg))) ?_
      refine aw_aload_n (i := 0) rfl d_X12_walkOf_126 0 rfl ?_
      refine aw_getr (k0 := 4) kc_12 (ws_1 w) (Nat.le_of_ble_eq_true rfl) tw_1746 d_X12_walkOf_127 rfl (wr_1_4 w) ?_
      refine aw_iload d_X12_walkOf_130 3 rfl ?_
      obtain ⟨b27, k⟩ := k
      refine aw_iald (ws_202 w) b27 d_X12_walkOf_132 ?_
      refine aw_vi (v2 := (h_i h 202 x4.toNatClampNeg)) (rfl) ?_
      refine aw_iadd d_X12_walkOf_133 ?_
      refine aw_aload_n (i := 0) rfl d_X12_walkOf_134 0 rfl ?_
      refine aw_getr (k0 := 5) kc_12 (ws_1 w) (Nat.le_of_ble_eq_true rfl) tw_1747 d_X12_walkOf_135 rfl (wr_1_5 w) ?_
      refine aw_iload d_X12_walkOf_138 4 rfl ?_
      obtain ⟨b28, k⟩ := k
      refine aw_iald (ws_203 w) b28 d_X12_walkOf_140 ?_
      refine aw_icmp_ge (tgt := 168) d_X12_walkOf_141 rfl (fun c29 => ?_) (fun c29 => ?_)
      · have k := k.1 c29
        refine aw_iinc (v := (x4 + 1)) [(0, .ref 1), (2, .int x2), (3, .int 1), (4, .int (x4 + 1)), (5, .int (h_i h 200 x4.toNatClampNeg)), (6, .int (h_i h 201 x4.toNatClampNeg))] d_X12_walkOf_168 3 rfl rfl (Nat.le_of_ble_eq_true rfl) rfl rfl ?_
        refine aw_goto (tgt := 43) d_X12_walkOf_171 rfl ?_
        exact aw_lvp [0, 1, 2, 3] [(0, .ref 1), (2, .int x2), (3, .int 1), (4, .int (x4 + 1))] rfl k
      · have k := k.2 c29
        refine aw_aload_n (i := 0) rfl d_X12_walkOf_144 0 rfl ?_
        refine aw_getr (k0 := 5) kc_12 (ws_1 w) (Nat.le_of_ble_eq_true rfl) tw_1747 d_X12_walkOf_145 rfl (wr_1_5 w) ?_
        refine aw_iload d_X12_walkOf_148 4 rfl ?_
        refine aw_aload_n (i := 0) rfl d_X12_walkOf_150 0 rfl ?_
        refine aw_getr (k0 := 5) kc_12 (ws_1 w) (Nat.le_of_ble_eq_true rfl) tw_1747 d_X12_walkOf_151 rfl (wr_1_5 w) ?_
        refine aw_iload d_X12_walkOf_154 5 rfl ?_
        obtain ⟨b30, k⟩ := k
        refine aw_iald (ws_203 w) b30 d_X12_walkOf_156 ?_
        refine aw_vi (v2 := ((h_i h 203 ((h_i h 200 x4.toNatClampNeg) : Int32).toNatClampNeg) + (h_i h 202 x4.toNatClampNeg))) (hi_s h 203 ((h_i h 201 x4.toNatClampNeg) : Int32).toNatClampNeg ((h_i h 203 ((h_i h 200 x4.toNatClampNeg) : Int32).toNatClampNeg) + (h_i h 202 x4.toNatClampNeg))) ?_
        refine aw_aload_n (i := 0) rfl d_X12_walkOf_157 0 rfl ?_
        refine aw_getr (k0 := 4) kc_12 (ws_1 w) (Nat.le_of_ble_eq_true rfl) tw_1746 d_X12_walkOf_158 rfl (wr_1_4 w) ?_
        refine aw_iload d_X12_walkOf_161 3 rfl ?_
        obtain ⟨b31, k⟩ := k
        refine aw_iald (ws_202 w) b31 d_X12_walkOf_163 ?_
        refine aw_vi (v2 := (h_i h 202 x4.toNatClampNeg)) (rfl) ?_
        refine aw_iadd d_X12_walkOf_164 ?_
        obtain ⟨b32, k⟩ := k
        refine aw_iast (ws_203 w) b32 d_X12_walkOf_165 ?_
        refine aw_iconst (v := 1) d_X12_walkOf_166 ic_1 ?_
        refine aw_istore_n (i := 3) rfl [(0, .ref 1), (2, .int x2), (3, .int 1), (4, .int x4), (5, .int (h_i h 200 x4.toNatClampNeg)), (6, .int (h_i h 201 x4.toNatClampNeg))] d_X12_walkOf_167 (Nat.le_of_ble_eq_true rfl) rfl rfl ?_
        refine aw_iinc (v := (x4 + 1)) [(0, .ref 1), (2, .int x2), (3, .int 1), (4, .int (x4 + 1)), (5, .int (h_i h 200 x4.toNatClampNeg)), (6, .int (h_i h 201 x4.toNatClampNeg))] d_X12_walkOf_168 3 rfl rfl (Nat.le_of_ble_eq_true rfl) rfl rfl ?_
        refine aw_goto (tgt := 43) d_X12_walkOf_171 rfl ?_
        exact aw_lvp [0, 1, 2, 3] [(0, .ref 1), (2, .int x2), (3, .int 1), (4, .int (x4 + 1))] rfl k
theorem t_X9_minutes (d : Nat) (h : Hp_) (x1 : Int32) (x2 : Int32) (K : Int32 → Hp_ → Prop) (k : Ci (m_X11_isPlace (d + 0) 0 0) [.int x1] h (fun r3 h1 => Wf h1 ∧ ((r3 = 0 → K (-1) h1) ∧ (¬ r3 = 0 → Ci (m_X11_isPlace (d + 0) 0 0) [.int x2] h1 (fun r7 h5 => Wf h5 ∧ ((¬ r7 = 0 → vp_in ((x1 * 16) + x2) 256 ∧ (((h_i h5 30 (((x1 * 16) + x2) : Int32).toNatClampNeg) < 1000000 → K (h_i h5 30 (((x1 * 16) + x2) : Int32).toNatClampNeg) h5) ∧ (¬ (h_i h5 30 (((x1 * 16) + x2) : Int32).toNatClampNeg) < 1000000 → K (-1) h5))) ∧ (r7 = 0 → K (-1) h5))))))) : Ci (m_X9_minutes (d + 1) 0 0) [.ref 10, .int x1, .int x2] h K := by
  refine Ct.of (fun _ _ _ => trivial) (by decide) (Nat.le_of_ble_eq_true rfl) ?_
  show AW (m_X9_minutes (d + 1) 0 0) 0 0 0 [(0, .ref 10), (1, .int x1), (2, .int x2)] [] h (kI K)
  refine aw_iload_n (i := 1) rfl d_X9_minutes_0 1 rfl ?_
  refine aw_SNi [.int x1] [] d_X9_minutes_1 (cS_X11_isPlace (d + 0) 0 0) (List.mem_of_getElem? (i := 7) rfl) rfl (rr0 (Nat.le_of_ble_eq_true rfl) (Nat.le_of_ble_eq_true rfl)) (Nat.le_of_ble_eq_true rfl) xs0 k (fun r3 h1 kk => ?_)
  obtain ⟨w2, k⟩ := kk
  refine aw_if_eq (tgt := 14) d_X9_minutes_4 rfl (fun c4 => ?_) (fun c4 => ?_)
  · have k := k.1 c4
    refine aw_iconst (v := (-1)) d_X9_minutes_14 ic_m1 ?_
    exact aw_iret rfl d_X9_minutes_15 ⟨Nat.le_refl _, Nat.le_refl _⟩ ⟨_, rfl, k⟩
  · have k := k.2 c4
    refine aw_iload_n (i := 2) rfl d_X9_minutes_7 2 rfl ?_
    refine aw_SNi [.int x2] [] d_X9_minutes_8 (cS_X11_isPlace (d + 0) 0 0) (List.mem_of_getElem? (i := 7) rfl) rfl (rr0 (Nat.le_of_ble_eq_true rfl) (Nat.le_of_ble_eq_true rfl)) (Nat.le_of_ble_eq_true rfl) xs0 k (fun r7 h5 kk => ?_)
    obtain ⟨w6, k⟩ := kk
    refine aw_if_ne (tgt := 16) d_X9_minutes_11 rfl (fun c8 => ?_) (fun c8 => ?_)
    · have k := k.1 c8
      refine aw_aload_n (i := 0) rfl d_X9_minutes_16 0 rfl ?_
      refine aw_getr (k0 := 0) kc_9 (ws_10 w6) (Nat.le_of_ble_eq_true rfl) tw_42 d_X9_minutes_17 rfl (wr_10_0 w6) ?_
      refine aw_iload_n (i := 1) rfl d_X9_minutes_20 1 rfl ?_
      refine aw_bipush (v := 16) d_X9_minutes_21 ib_16 ?_
      refine aw_imul d_X9_minutes_23 ?_
      refine aw_iload_n (i := 2) rfl d_X9_minutes_24 2 rfl ?_
      refine aw_iadd d_X9_minutes_25 ?_
      obtain ⟨b9, k⟩ := k
      refine aw_iald (ws_30 w6) b9 d_X9_minutes_26 ?_
      refine aw_istore_n (i := 3) rfl [(0, .ref 10), (1, .int x1), (2, .int x2), (3, .int (h_i h5 30 (((x1 * 16) + x2) : Int32).toNatClampNeg))] d_X9_minutes_27 (Nat.le_of_ble_eq_true rfl) rfl rfl ?_
      refine aw_iload_n (i := 3) rfl d_X9_minutes_28 3 rfl ?_
      refine aw_ldc (v := 1000000) d_X9_minutes_29 tw_41 ?_
      refine aw_icmp_lt (tgt := 38) d_X9_minutes_31 rfl (fun c10 => ?_) (fun c10 => ?_)
      · have k := k.1 c10
        refine aw_iload_n (i := 3) rfl d_X9_minutes_38 3 rfl ?_
        exact aw_iret rfl d_X9_minutes_39 ⟨Nat.le_refl _, Nat.le_refl _⟩ ⟨_, rfl, k⟩
      · have k := k.2 c10
        refine aw_iconst (v := (-1)) d_X9_minutes_34 ic_m1 ?_
        refine aw_goto (tgt := 39) d_X9_minutes_35 rfl ?_
        exact aw_iret rfl d_X9_minutes_39 ⟨Nat.le_refl _, Nat.le_refl _⟩ ⟨_, rfl, k⟩
    · have k := k.2 c8
      refine aw_iconst (v := (-1)) d_X9_minutes_14 ic_m1 ?_
      exact aw_iret rfl d_X9_minutes_15 ⟨Nat.le_refl _, Nat.le_refl _⟩ ⟨_, rfl, k⟩
theorem t_X9_lay (d : Nat) (h : Hp_) (w : Wf h) (x1 : Int32) (x2 : Int32) (x3 : Int32) (K : Int32 → Hp_ → Prop) (k : ((h_i h 10 1) < 40 → AW (m_X9_lay (d + 1) 0 0) 0 0 14 [(0, .ref 10), (1, .int x1), (2, .int x2), (3, .int x3), (4, .int 0)] [] h (kI K)) ∧ (¬ (h_i h 10 1) < 40 → K (-1) h)) : Ci (m_X9_lay (d + 1) 0 0) [.ref 10, .int x1, .int x2, .int x3] h K := by
  refine Ct.of (fun _ _ _ => trivial) (by decide) (Nat.le_of_ble_eq_true rfl) ?_
  show AW (m_X9_lay (d + 1) 0 0) 0 0 0 [(0, .ref 10), (1, .int x1), (2, .int x2), (3, .int x3)] [] h (kI K)
  refine aw_aload_n (i := 0) rfl d_X9_lay_0 0 rfl ?_
  refine aw_geti (k0 := 1) kc_9 (ws_10 w) (Nat.le_of_ble_eq_true rfl) tw_43 d_X9_lay_1 rfl ?_
  refine aw_bipush (v := 40) d_X9_lay_4 ib_40 ?_
  refine aw_icmp_lt (tgt := 11) d_X9_lay_6 rfl (fun c1 => ?_) (fun c1 => ?_)
  · have k := k.1 c1
    refine aw_iconst (v := 0) d_X9_lay_11 ic_0 ?_
    refine aw_istore [(0, .ref 10), (1, .int x1), (2, .int x2), (3, .int x3), (4, .int 0)] d_X9_lay_12 (Nat.le_of_ble_eq_true rfl) rfl rfl ?_
    exact k
  · have k := k.2 c1
    refine aw_iconst (v := (-1)) d_X9_lay_9 ic_m1 ?_
    exact aw_iret rfl d_X9_lay_10 ⟨Nat.le_refl _, Nat.le_refl _⟩ ⟨_, rfl, k⟩
theorem t_X9_lay_14 (d : Nat) (h : Hp_) (w : Wf h) (x1 : Int32) (x2 : Int32) (x3 : Int32) (x4 : Int32) (K : Int32 → Hp_ → Prop) (k : (16 ≤ x4 → K (((h_i h 10 1) + 1) - 1) (h_im h 10 1 ((h_i h 10 1) + 1))) ∧ (¬ 16 ≤ x4 → AW (m_X9_lay (d + 1) 0 0) 0 0 24 [(0, .ref 10), (1, .int x1), (2, .int x2), (3, .int x3), (4, .int x4), (5, .int 0)] [] h (kI K))) : AW (m_X9_lay (d + 1) 0 0) 0 0 14 [(0, .ref 10), (1, .int x1), (2, .int x2), (3, .int x3), (4, .int x4)] [] h (kI K) := by
  refine aw_iload d_X9_lay_14 4 rfl ?_
  refine aw_bipush (v := 16) d_X9_lay_16 ib_16 ?_
  refine aw_icmp_ge (tgt := 135) d_X9_lay_18 rfl (fun c2 => ?_) (fun c2 => ?_)
  · have k := k.1 c2
    refine aw_aload_n (i := 0) rfl d_X9_lay_135 0 rfl ?_
    refine aw_dup d_X9_lay_136 rfl ?_
    refine aw_geti (k0 := 1) kc_9 (ws_10 w) (Nat.le_of_ble_eq_true rfl) tw_43 d_X9_lay_137 rfl ?_
    refine aw_iconst (v := 1) d_X9_lay_140 ic_1 ?_
    refine aw_iadd d_X9_lay_141 ?_
    refine aw_puti (k0 := 1) kc_9 (ws_10 w) (Nat.le_of_ble_eq_true rfl) tw_43 d_X9_lay_142 rfl rfl nf_i ?_
    refine aw_aload_n (i := 0) rfl d_X9_lay_145 0 rfl ?_
    refine aw_geti (k0 := 1) kc_9 (ws_10 w) (Nat.le_of_ble_eq_true rfl) tw_43 d_X9_lay_146 rfl ?_
    refine aw_vi (v2 := ((h_i h 10 1) + 1)) (rfl) ?_
    refine aw_iconst (v := 1) d_X9_lay_149 ic_1 ?_
    refine aw_isub d_X9_lay_150 ?_
    exact aw_iret rfl d_X9_lay_151 ⟨Nat.le_refl _, Nat.le_refl _⟩ ⟨_, rfl, k⟩
  · have k := k.2 c2
    refine aw_iconst (v := 0) d_X9_lay_21 ic_0 ?_
    refine aw_istore [(0, .ref 10), (1, .int x1), (2, .int x2), (3, .int x3), (4, .int x4), (5, .int 0)] d_X9_lay_22 (Nat.le_of_ble_eq_true rfl) rfl rfl ?_
    exact k
theorem t_X9_lay_24 (d : Nat) (h : Hp_) (w : Wf h) (x1 : Int32) (x2 : Int32) (x3 : Int32) (x4 : Int32) (x5 : Int32) (K : Int32 → Hp_ → Prop) (k : (16 ≤ x5 → AW (m_X9_lay (d + 1) 0 0) 0 0 14 [(0, .ref 10), (1, .int x1), (2, .int x2), (3, .int x3), (4, .int (x4 + 1))] [] h (kI K)) ∧ (¬ 16 ≤ x5 → vp_in ((x4 * 16) + x1) 256 ∧ (vp_in ((x2 * 16) + x5) 256 ∧ (vp_in ((x4 * 16) + x2) 256 ∧ (vp_in ((x1 * 16) + x5) 256 ∧ (vp_in ((x4 * 16) + x5) 256 ∧ (Ci (m_J9_min_7cf53 (d + 0) 0 0) [.int (((h_i h 30 (((x4 * 16) + x1) : Int32).toNatClampNeg) + x3) + (h_i h 30 (((x2 * 16) + x5) : Int32).toNatClampNeg)), .int (((h_i h 30 (((x4 * 16) + x2) : Int32).toNatClampNeg) + x3) + (h_i h 30 (((x1 * 16) + x5) : Int32).toNatClampNeg))] h (fun r11 h9 => Wf h9 ∧ (Ci (m_J9_min_7cf53 (d + 0) 0 0) [.int (h_i h 30 (((x4 * 16) + x5) : Int32).toNatClampNeg), .int r11] h9 (fun r14 h12 => Wf h12 ∧ (vp_in ((x4 * 16) + x5) 256 ∧ (AW (m_X9_lay (d + 1) 0 0) 0 0 24 [(0, .ref 10), (1, .int x1), (2, .int x2), (3, .int x3), (4, .int x4), (5, .int (x5 + 1))] [] (h_im h12 30 (((x4 * 16) + x5) : Int32).toNatClampNeg r14) (kI K))))))))))))) : AW (m_X9_lay (d + 1) 0 0) 0 0 24 [(0, .ref 10), (1, .int x1), (2, .int x2), (3, .int x3), (4, .int x4), (5, .int x5)] [] h (kI K) := by
  refine aw_iload d_X9_lay_24 5 rfl ?_
  refine aw_bipush (v := 16) d_X9_lay_26 ib_16 ?_
  refine aw_icmp_ge (tgt := 129) d_X9_lay_28 rfl (fun c3 => ?_) (fun c3 => ?_)
  · have k := k.1 c3
    refine aw_iinc (v := (x4 + 1)) [(0, .ref 10), (1, .int x1), (2, .int x2), (3, .int x3), (4, .int (x4 + 1)), (5, .int x5)] d_X9_lay_129 4 rfl rfl (Nat.le_of_ble_eq_true rfl) rfl rfl ?_
    refine aw_goto (tgt := 14) d_X9_lay_132 rfl ?_
    exact aw_lvp [0, 1, 2, 3, 4] [(0, .ref 10), (1, .int x1), (2, .int x2), (3, .int x3), (4, .int (x4 + 1))] rfl k
  · have k := k.2 c3
    refine aw_aload_n (i := 0) rfl d_X9_lay_31 0 rfl ?_
    refine aw_getr (k0 := 0) kc_9 (ws_10 w) (Nat.le_of_ble_eq_true rfl) tw_42 d_X9_lay_32 rfl (wr_10_0 w) ?_
    refine aw_iload d_X9_lay_35 4 rfl ?_
    refine aw_bipush (v := 16) d_X9_lay_37 ib_16 ?_
    refine aw_imul d_X9_lay_39 ?_
    refine aw_iload_n (i := 1) rfl d_X9_lay_40 1 rfl ?_
    refine aw_iadd d_X9_lay_41 ?_
    obtain ⟨b4, k⟩ := k
    refine aw_iald (ws_30 w) b4 d_X9_lay_42 ?_
    refine aw_iload_n (i := 3) rfl d_X9_lay_43 3 rfl ?_
    refine aw_iadd d_X9_lay_44 ?_
    refine aw_aload_n (i := 0) rfl d_X9_lay_45 0 rfl ?_
    refine aw_getr (k0 := 0) kc_9 (ws_10 w) (Nat.le_of_ble_eq_true rfl) tw_42 d_X9_lay_46 rfl (wr_10_0 w) ?_
    refine aw_iload_n (i := 2) rfl d_X9_lay_49 2 rfl ?_
    refine aw_bipush (v := 16) d_X9_lay_50 ib_16 ?_
    refine aw_imul d_X9_lay_52 ?_
    refine aw_iload d_X9_lay_53 5 rfl ?_
    refine aw_iadd d_X9_lay_55 ?_
    obtain ⟨b5, k⟩ := k
    refine aw_iald (ws_30 w) b5 d_X9_lay_56 ?_
    refine aw_iadd d_X9_lay_57 ?_
    refine aw_istore [(0, .ref 10), (1, .int x1), (2, .int x2), (3, .int x3), (4, .int x4), (5, .int x5), (6, .int (((h_i h 30 (((x4 * 16) + x1) : Int32).toNatClampNeg) + x3) + (h_i h 30 (((x2 * 16) + x5) : Int32).toNatClampNeg)))] d_X9_lay_58 (Nat.le_of_ble_eq_true rfl) rfl rfl ?_
    refine aw_aload_n (i := 0) rfl d_X9_lay_60 0 rfl ?_
    refine aw_getr (k0 := 0) kc_9 (ws_10 w) (Nat.le_of_ble_eq_true rfl) tw_42 d_X9_lay_61 rfl (wr_10_0 w) ?_
    refine aw_iload d_X9_lay_64 4 rfl ?_
    refine aw_bipush (v := 16) d_X9_lay_66 ib_16 ?_
    refine aw_imul d_X9_lay_68 ?_
    refine aw_iload_n (i := 2) rfl d_X9_lay_69 2 rfl ?_
    refine aw_iadd d_X9_lay_70 ?_
    obtain ⟨b6, k⟩ := k
    refine aw_iald (ws_30 w) b6 d_X9_lay_71 ?_
    refine aw_iload_n (i := 3) rfl d_X9_lay_72 3 rfl ?_
    refine aw_iadd d_X9_lay_73 ?_
    refine aw_aload_n (i := 0) rfl d_X9_lay_74 0 rfl ?_
    refine aw_getr (k0 := 0) kc_9 (ws_10 w) (Nat.le_of_ble_eq_true rfl) tw_42 d_X9_lay_75 rfl (wr_10_0 w) ?_
    refine aw_iload_n (i := 1) rfl d_X9_lay_78 1 rfl ?_
    refine aw_bipush (v := 16) d_X9_lay_79 ib_16 ?_
    refine aw_imul d_X9_lay_81 ?_
    refine aw_iload d_X9_lay_82 5 rfl ?_
    refine aw_iadd d_X9_lay_84 ?_
    obtain ⟨b7, k⟩ := k
    refine aw_iald (ws_30 w) b7 d_X9_lay_85 ?_
    refine aw_iadd d_X9_lay_86 ?_
    refine aw_istore [(0, .ref 10), (1, .int x1), (2, .int x2), (3, .int x3), (4, .int x4), (5, .int x5), (6, .int (((h_i h 30 (((x4 * 16) + x1) : Int32).toNatClampNeg) + x3) + (h_i h 30 (((x2 * 16) + x5) : Int32).toNatClampNeg))), (7, .int (((h_i h 30 (((x4 * 16) + x2) : Int32).toNatClampNeg) + x3) + (h_i h 30 (((x1 * 16) + x5) : Int32).toNatClampNeg)))] d_X9_lay_87 (Nat.le_of_ble_eq_true rfl) rfl rfl ?_
    refine aw_iload d_X9_lay_89 4 rfl ?_
    refine aw_bipush (v := 16) d_X9_lay_91 ib_16 ?_
    refine aw_imul d_X9_lay_93 ?_
    refine aw_iload d_X9_lay_94 5 rfl ?_
    refine aw_iadd d_X9_lay_96 ?_
    refine aw_istore [(0, .ref 10), (1, .int x1), (2, .int x2), (3, .int x3), (4, .int x4), (5, .int x5), (6, .int (((h_i h 30 (((x4 * 16) + x1) : Int32).toNatClampNeg) + x3) + (h_i h 30 (((x2 * 16) + x5) : Int32).toNatClampNeg))), (7, .int (((h_i h 30 (((x4 * 16) + x2) : Int32).toNatClampNeg) + x3) + (h_i h 30 (((x1 * 16) + x5) : Int32).toNatClampNeg))), (8, .int ((x4 * 16) + x5))] d_X9_lay_97 (Nat.le_of_ble_eq_true rfl) rfl rfl ?_
    refine aw_aload_n (i := 0) rfl d_X9_lay_99 0 rfl ?_
    refine aw_getr (k0 := 0) kc_9 (ws_10 w) (Nat.le_of_ble_eq_true rfl) tw_42 d_X9_lay_100 rfl (wr_10_0 w) ?_
    refine aw_iload d_X9_lay_103 8 rfl ?_
    refine aw_aload_n (i := 0) rfl d_X9_lay_105 0 rfl ?_
    refine aw_getr (k0 := 0) kc_9 (ws_10 w) (Nat.le_of_ble_eq_true rfl) tw_42 d_X9_lay_106 rfl (wr_10_0 w) ?_
    refine aw_iload d_X9_lay_109 8 rfl ?_
    obtain ⟨b8, k⟩ := k
    refine aw_iald (ws_30 w) b8 d_X9_lay_111 ?_
    refine aw_iload d_X9_lay_112 6 rfl ?_
    refine aw_iload d_X9_lay_114 7 rfl ?_
    refine aw_Si [.int (((h_i h 30 (((x4 * 16) + x1) : Int32).toNatClampNeg) + x3) + (h_i h 30 (((x2 * 16) + x5) : Int32).toNatClampNeg)), .int (((h_i h 30 (((x4 * 16) + x2) : Int32).toNatClampNeg) + x3) + (h_i h 30 (((x1 * 16) + x5) : Int32).toNatClampNeg))] [.int (h_i h 30 (((x4 * 16) + x5) : Int32).toNatClampNeg), .int ((x4 * 16) + x5), .ref 30] d_X9_lay_116 (cS_J9_min_7cf53 (d + 0) 0 0) tw_550 rfl (rr0 (Nat.le_of_ble_eq_true rfl) (Nat.le_of_ble_eq_true rfl)) (Nat.le_of_ble_eq_true rfl) xs0 k (fun r11 h9 kk => ?_)
    obtain ⟨w10, k⟩ := kk
    refine aw_Si [.int (h_i h 30 (((x4 * 16) + x5) : Int32).toNatClampNeg), .int r11] [.int ((x4 * 16) + x5), .ref 30] d_X9_lay_119 (cS_J9_min_7cf53 (d + 0) 0 0) tw_550 rfl (rr0 (Nat.le_of_ble_eq_true rfl) (Nat.le_of_ble_eq_true rfl)) (Nat.le_of_ble_eq_true rfl) xs0 k (fun r14 h12 kk => ?_)
    obtain ⟨w13, k⟩ := kk
    obtain ⟨b15, k⟩ := k
    refine aw_iast (ws_30 w13) b15 d_X9_lay_122 ?_
    refine aw_iinc (v := (x5 + 1)) [(0, .ref 10), (1, .int x1), (2, .int x2), (3, .int x3), (4, .int x4), (5, .int (x5 + 1)), (6, .int (((h_i h 30 (((x4 * 16) + x1) : Int32).toNatClampNeg) + x3) + (h_i h 30 (((x2 * 16) + x5) : Int32).toNatClampNeg))), (7, .int (((h_i h 30 (((x4 * 16) + x2) : Int32).toNatClampNeg) + x3) + (h_i h 30 (((x1 * 16) + x5) : Int32).toNatClampNeg))), (8, .int ((x4 * 16) + x5))] d_X9_lay_123 5 rfl rfl (Nat.le_of_ble_eq_true rfl) rfl rfl ?_
    refine aw_goto (tgt := 24) d_X9_lay_126 rfl ?_
    exact aw_lvp [0, 1, 2, 3, 4, 5] [(0, .ref 10), (1, .int x1), (2, .int x2), (3, .int x3), (4, .int x4), (5, .int (x5 + 1))] rfl k
