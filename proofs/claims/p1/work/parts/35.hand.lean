/-! p1: by hand: the class's tick and constable, whole -/
theorem lp_tick (d n : Nat) (hn : n ≤ 1500) (b N : Nat) (hb : 400 ≤ b) (hbl : b < 1000) (hN : n ≤ N) : ∀ r i : Nat, r + i = n → ∀ h, Wf h → FrM h → h_i h 0 0 = Int32.ofNat i → h_i h 0 7 = 0 → h_r h 0 15 = some b → h_sh h b = some (3, N) → N < 2147483648 → AW (m_X11_tick (d + 3) 1 1500) 1 1500 37 [(0, .ref 0), (1, .int (Int32.ofNat n)), (2, .int (Int32.ofNat i))] [] h (kI (fun r h' => r = Int32.ofNat n ∧ Wf h' ∧ FrM h')) := by
  intro r
  induction r with
  | zero =>
    intro i hi h w f e0 e7 hr hs hNl
    have hi : i = n := by omega
    subst hi
    refine aw_iload_n (i := 2) rfl d_X11_tick_37 2 rfl ?_
    refine aw_iload_n (i := 1) rfl d_X11_tick_38 1 rfl ?_
    refine aw_icmp_ge (tgt := 118) d_X11_tick_39 rfl (fun _ => ?_) (fun c => absurd (Int32.le_refl _) c)
    refine aw_aload_n (i := 0) rfl d_X11_tick_118 0 rfl ?_
    refine aw_geti (k0 := 0) kc_11 (ws_0 w) (Nat.le_of_ble_eq_true rfl) tw_487 d_X11_tick_119 rfl ?_
    exact aw_iret rfl d_X11_tick_122 ⟨Nat.le_of_ble_eq_true rfl, Nat.le_of_ble_eq_true rfl⟩ ⟨_, rfl, e0, w, f⟩
  | succ r ih =>
    intro i hi h w f e0 e7 hr hs hNl
    refine aw_iload_n (i := 2) rfl d_X11_tick_37 2 rfl ?_
    refine aw_iload_n (i := 1) rfl d_X11_tick_38 1 rfl ?_
    refine aw_icmp_ge (tgt := 118) d_X11_tick_39 rfl (fun c => absurd ((on_le (by omega) (by omega)).mp c) (by omega)) (fun _ => ?_)
    refine aw_aload_n (i := 0) rfl d_X11_tick_42 0 rfl ?_
    refine aw_getr (k0 := 15) kc_11 (ws_0 w) (Nat.le_of_ble_eq_true rfl) tw_502 d_X11_tick_43 rfl hr ?_
    refine aw_aload_n (i := 0) rfl d_X11_tick_46 0 rfl ?_
    refine aw_geti (k0 := 0) kc_11 (ws_0 w) (Nat.le_of_ble_eq_true rfl) tw_487 d_X11_tick_47 rfl ?_
    refine aw_aload_n (i := 0) rfl d_X11_tick_50 0 rfl ?_
    refine aw_getl (k0 := 14) kc_11 (ws_0 w) (Nat.le_of_ble_eq_true rfl) tw_501 d_X11_tick_51 rfl ?_
    refine aw_last hs (by rw [e0]; exact on_in (by omega) hNl) d_X11_tick_54 ?_
    have w1 : Wf (h_lm h b (h_i h 0 0).toNatClampNeg (h_l h 0 14)) := w
    refine aw_aload_n (i := 0) rfl d_X11_tick_55 0 rfl ?_
    refine aw_dup d_X11_tick_56 rfl ?_
    refine aw_geti (k0 := 0) kc_11 (ws_0 w1) (Nat.le_of_ble_eq_true rfl) tw_487 d_X11_tick_57 rfl ?_
    refine aw_iconst (v := 1) d_X11_tick_60 ic_1 ?_
    refine aw_iadd d_X11_tick_61 ?_
    refine aw_vi (v2 := Int32.ofNat (i + 1)) (by show h_i h 0 0 + 1 = _; rw [e0, on_suc]) ?_
    refine aw_puti (k0 := 0) kc_11 (ws_0 w1) (Nat.le_of_ble_eq_true rfl) tw_487 d_X11_tick_62 rfl rfl nf_i ?_
    refine aw_iconst (v := 0) d_X11_tick_65 ic_0 ?_
    refine aw_istore_n (i := 3) rfl [(0, .ref 0), (1, .int (Int32.ofNat n)), (2, .int (Int32.ofNat i)), (3, .int 0)] d_X11_tick_66 (Nat.le_of_ble_eq_true rfl) rfl rfl ?_
    refine aw_iload_n (i := 3) rfl d_X11_tick_67 3 rfl ?_
    refine aw_aload_n (i := 0) rfl d_X11_tick_68 0 rfl ?_
    refine aw_geti (k0 := 7) kc_11 (ws_0 w1) (Nat.le_of_ble_eq_true rfl) tw_494 d_X11_tick_69 rfl ?_
    refine aw_vi (v2 := 0) e7 ?_
    refine aw_icmp_ge (tgt := 112) d_X11_tick_72 rfl (fun _ => ?_) (fun c => absurd (by decide) c)
    refine aw_iinc (v := Int32.ofNat (i + 1)) [(0, .ref 0), (1, .int (Int32.ofNat n)), (2, .int (Int32.ofNat (i + 1))), (3, .int 0)] d_X11_tick_112 2 rfl (on_suc i) (Nat.le_of_ble_eq_true rfl) rfl rfl ?_
    refine aw_goto (tgt := 37) d_X11_tick_115 rfl ?_
    refine aw_lvp [0, 1, 2] [(0, .ref 0), (1, .int (Int32.ofNat n)), (2, .int (Int32.ofNat (i + 1)))] rfl ?_
    refine ih (i + 1) (by omega) _ (w1.im _ _ _) (FrM.im (FrM.lm f) (by decide)) ?_ e7 hr hs hNl
    rfl
theorem g_X11_tick (d : Nat) (x1 : Int32) : Ci (m_X11_tick (d + 3) 1 1500) [.ref 0, .int x1] HF (fun r h' => r = sp_tick x1 ∧ Wf h' ∧ FrM h') := by
  have e00 : h_i HF 0 0 = 0 := by decide +kernel
  refine Ct.of (fun _ _ _ => trivial) rfl (Nat.le_of_ble_eq_true rfl) ?_
  show AW (m_X11_tick (d + 3) 1 1500) 0 0 0 [(0, .ref 0), (1, .int x1)] [] HF (kI (fun r h' => r = sp_tick x1 ∧ Wf h' ∧ FrM h'))
  refine aw_iload_n (i := 1) rfl d_X11_tick_0 1 rfl ?_
  refine aw_iconst (v := 0) d_X11_tick_1 ic_0 ?_
  refine aw_sipush (v := 1500) d_X11_tick_2 is_1500 ?_
  refine aw_Si [.int x1, .int 0, .int 1500] [] d_X11_tick_5 (cS_X11_within (d + 0) 0 0) tw_543 rfl (rr1 (Nat.le_of_ble_eq_true rfl) (Nat.le_of_ble_eq_true rfl) (Nat.le_of_ble_eq_true rfl) (Nat.le_of_ble_eq_true rfl)) (by decide) xs0 (s_X11_within _ _ x1 0 1500) (fun _ _ kk => ?_)
  obtain ⟨e1, e2⟩ := kk
  rw [e1, e2]
  refine aw_ifb_eq (tgt := 23) d_X11_tick_8 rfl (fun c => ?_) (fun c => ?_)
  · refine aw_iconst (v := (-1)) d_X11_tick_23 ic_m1 ?_
    exact aw_iret rfl d_X11_tick_24 ⟨Nat.le_of_ble_eq_true rfl, Nat.le_of_ble_eq_true rfl⟩ ⟨_, rfl, (if_neg c).symm, wHF, fHF⟩
  · obtain ⟨n, hn, rfl⟩ := tk_of c
    refine aw_aload_n (i := 0) rfl d_X11_tick_11 0 rfl ?_
    refine aw_geti (k0 := 0) kc_11 (ws_0 wHF) (Nat.le_of_ble_eq_true rfl) tw_487 d_X11_tick_12 rfl ?_
    refine aw_vi (v2 := 0) e00 ?_
    refine aw_iload_n (i := 1) rfl d_X11_tick_15 1 rfl ?_
    refine aw_iadd d_X11_tick_16 ?_
    refine aw_vi (v2 := Int32.ofNat n) (Int32.zero_add _) ?_
    refine aw_sipush (v := 20000) d_X11_tick_17 is_20000 ?_
    refine aw_icmp_le (tgt := 25) d_X11_tick_20 rfl (fun _ => ?_) (fun z => absurd ((on_le (j := 20000) (by omega) (by decide)).mpr (by omega)) z)
    refine aw_aload_n (i := 0) rfl d_X11_tick_25 0 rfl ?_
    refine aw_aload_n (i := 0) rfl d_X11_tick_26 0 rfl ?_
    refine aw_geti (k0 := 0) kc_11 (ws_0 wHF) (Nat.le_of_ble_eq_true rfl) tw_487 d_X11_tick_27 rfl ?_
    refine aw_vi (v2 := 0) e00 ?_
    refine aw_iload_n (i := 1) rfl d_X11_tick_30 1 rfl ?_
    refine aw_iadd d_X11_tick_31 ?_
    refine aw_vi (v2 := Int32.ofNat n) (Int32.zero_add _) ?_
    refine aw_Vv 0 [.int (Int32.ofNat n)] [] d_X11_tick_32 (cV_X11_makeHistory (d + 2) 1 1500) kc_11 (ws_0 wHF) tw_995 rfl (rr1 (Nat.le_of_ble_eq_true rfl) (Nat.le_of_ble_eq_true rfl) (Nat.le_of_ble_eq_true rfl) (show 0 + 0 + 1500 ≤ 1500 from by decide)) (by decide) xs0 (s_makeHistory d n (by omega)) (fun h1 kk => ?_)
    obtain ⟨w1, f1, e0, e7, b, hb, hbl, hr, N, hN, hNb, hs⟩ := kk
    refine aw_iconst (v := 0) d_X11_tick_35 ic_0 ?_
    refine aw_istore_n (i := 2) rfl [(0, .ref 0), (1, .int (Int32.ofNat n)), (2, .int 0)] d_X11_tick_36 (Nat.le_of_ble_eq_true rfl) rfl rfl ?_
    have k := lp_tick d n (by omega) b N hb hbl hN n 0 (by omega) h1 w1 f1 e0 e7 hr hs
    refine AW.mono (k ?_) (fun v h' ⟨r, ev, er, ew⟩ => ⟨r, ev, er.trans (if_pos c).symm, ew⟩)
    omega
def sp_man (x1 x2 x3 : Int32) : Int32 := if (1 ≤ x1 ∧ x1 ≤ 4) ∧ (0 ≤ x2 ∧ x2 ≤ 40) ∧ (0 ≤ x3 ∧ x3 < 16) then 0 else -1
theorem rm_facts {h2 : Hp_} {k : Nat} (w2 : Wf h2) (hf : rfL.all (fun q => !(q.1 == 15 && q.2.1 == k)) = true) (s2 : h_sh h2 401 = some (12, 17)) (f2 : FrM h2) (e2 : h_i h2 0 7 = 0) (n2 : h_i h2 401 0 = 0) : Wf (h_rm h2 15 k (some 401)) ∧ h_sh (h_rm h2 15 k (some 401)) 401 = some (12, 17) ∧ FrM (h_rm h2 15 k (some 401)) ∧ h_i (h_rm h2 15 k (some 401)) 0 7 = 0 ∧ h_i (h_rm h2 15 k (some 401)) 401 0 = 0 :=
  ⟨Wf_rm w2 hf, (congrFun h_sh_rm 401).trans s2, FrM.rm f2, (congrFun (congrFun h_i_rm 0) 7).trans e2, (congrFun (congrFun h_i_rm 401) 0).trans n2⟩
theorem put_facts {Y : Hp_} (w3 : Wf Y) (s3 : h_sh Y 401 = some (12, 17)) (f3 : FrM Y) (n3 : h_i Y 401 0 = 0) (v x : Int32) (q : Int64) : Wf (h_lm (h_im (h_im Y 0 7 v) 401 5 x) 0 14 q) ∧ FrM (h_lm (h_im (h_im Y 0 7 v) 401 5 x) 0 14 q) ∧ h_sh (h_lm (h_im (h_im Y 0 7 v) 401 5 x) 0 14 q) 401 = some (12, 17) ∧ h_i (h_lm (h_im (h_im Y 0 7 v) 401 5 x) 0 14 q) 401 0 = 0 := by
  refine ⟨((w3.im 0 7 v).im 401 5 x).lm 0 14 q, FrM.lm (FrM.im (FrM.im f3 (by decide)) (by decide)), ?_, ?_⟩
  · rw [h_sh_lm, h_sh_im, h_sh_im]
    exact s3
  · rw [h_i_lm, h_i_im, if_neg (by decide), h_i_im, if_neg (by decide)]
    exact n3
theorem g_X11_constable (d : Nat) (x1 x2 x3 : Int32) : Ci (m_X11_constable (d + 2) 1 17) [.ref 0, .int x1, .int x2, .int x3] HF (fun r h' => r = sp_man x1 x2 x3 ∧ Wf h' ∧ FrM h') := by
  have e07 : h_i HF 0 7 = 0 := by decide +kernel
  have bad : ∀ lv, ¬ ((1 ≤ x1 ∧ x1 ≤ 4) ∧ (0 ≤ x2 ∧ x2 ≤ 40) ∧ (0 ≤ x3 ∧ x3 < 16)) → AW (m_X11_constable (d + 2) 1 17) 0 0 47 lv [] HF (kI (fun r h' => r = sp_man x1 x2 x3 ∧ Wf h' ∧ FrM h')) := fun lv c => by
    refine aw_iconst (v := (-1)) d_X11_constable_47 ic_m1 ?_
    exact aw_iret rfl d_X11_constable_48 ⟨Nat.le_of_ble_eq_true rfl, Nat.le_of_ble_eq_true rfl⟩ ⟨_, rfl, (if_neg c).symm, wHF, fHF⟩
  have no : ¬ ((1 ≤ x1 ∧ x1 ≤ 4) ∧ (0 ≤ x2 ∧ x2 ≤ 40) ∧ (0 ≤ x3 ∧ x3 < 16)) → AW (m_X11_constable (d + 2) 1 17) 0 0 30 [(0, .ref 0), (1, .int x1), (2, .int x2), (3, .int x3)] [] HF (kI (fun r h' => r = sp_man x1 x2 x3 ∧ Wf h' ∧ FrM h')) := fun c => by
    refine aw_iconst (v := 0) d_X11_constable_30 ic_0 ?_
    refine aw_istore [(0, .ref 0), (1, .int x1), (2, .int x2), (3, .int x3), (4, .int 0)] d_X11_constable_31 (Nat.le_of_ble_eq_true rfl) rfl rfl ?_
    refine aw_iload d_X11_constable_33 4 rfl ?_
    refine aw_if_eq (tgt := 47) d_X11_constable_35 rfl (fun _ => bad _ c) (fun z => absurd rfl z)
  refine Ct.of (fun _ _ _ => trivial) rfl (Nat.le_of_ble_eq_true rfl) ?_
  show AW (m_X11_constable (d + 2) 1 17) 0 0 0 [(0, .ref 0), (1, .int x1), (2, .int x2), (3, .int x3)] [] HF (kI (fun r h' => r = sp_man x1 x2 x3 ∧ Wf h' ∧ FrM h'))
  refine aw_iload_n (i := 1) rfl d_X11_constable_0 1 rfl ?_
  refine aw_iconst (v := 1) d_X11_constable_1 ic_1 ?_
  refine aw_iconst (v := 4) d_X11_constable_2 ic_4 ?_
  refine aw_Si [.int x1, .int 1, .int 4] [] d_X11_constable_3 (cS_X11_within (d + 0) 0 0) tw_543 rfl (rr1 (Nat.le_of_ble_eq_true rfl) (Nat.le_of_ble_eq_true rfl) (Nat.le_of_ble_eq_true rfl) (Nat.le_of_ble_eq_true rfl)) (by decide) xs0 (s_X11_within _ _ x1 1 4) (fun _ _ kk => ?_)
  obtain ⟨e1, e2⟩ := kk
  rw [e1, e2]
  refine aw_ifb_eq (tgt := 30) d_X11_constable_6 rfl (fun c => no (fun z => c z.1)) (fun c1 => ?_)
  refine aw_iload_n (i := 2) rfl d_X11_constable_9 2 rfl ?_
  refine aw_iconst (v := 0) d_X11_constable_10 ic_0 ?_
  refine aw_bipush (v := 40) d_X11_constable_11 ib_40 ?_
  refine aw_Si [.int x2, .int 0, .int 40] [] d_X11_constable_13 (cS_X11_within (d + 0) 0 0) tw_543 rfl (rr1 (Nat.le_of_ble_eq_true rfl) (Nat.le_of_ble_eq_true rfl) (Nat.le_of_ble_eq_true rfl) (Nat.le_of_ble_eq_true rfl)) (by decide) xs0 (s_X11_within _ _ x2 0 40) (fun _ _ kk => ?_)
  obtain ⟨e1, e2⟩ := kk
  rw [e1, e2]
  refine aw_ifb_eq (tgt := 30) d_X11_constable_16 rfl (fun c => no (fun z => c z.2.1)) (fun c2 => ?_)
  refine aw_iload_n (i := 3) rfl d_X11_constable_19 3 rfl ?_
  refine aw_Si [.int x3] [] d_X11_constable_20 (cS_X11_isPlace (d + 0) 0 0) tw_540 rfl (rr1 (Nat.le_of_ble_eq_true rfl) (Nat.le_of_ble_eq_true rfl) (Nat.le_of_ble_eq_true rfl) (Nat.le_of_ble_eq_true rfl)) (by decide) xs0 (s_X11_isPlace _ _ x3) (fun _ _ kk => ?_)
  obtain ⟨e1, e2⟩ := kk
  rw [e1, e2]
  refine aw_ifb_eq (tgt := 30) d_X11_constable_23 rfl (fun c => no (fun z => c z.2.2)) (fun c3 => ?_)
  refine aw_iconst (v := 1) d_X11_constable_26 ic_1 ?_
  refine aw_goto (tgt := 31) d_X11_constable_27 rfl ?_
  refine aw_istore [(0, .ref 0), (1, .int x1), (2, .int x2), (3, .int x3), (4, .int 1)] d_X11_constable_31 (Nat.le_of_ble_eq_true rfl) rfl rfl ?_
  refine aw_iload d_X11_constable_33 4 rfl ?_
  refine aw_if_eq (tgt := 47) d_X11_constable_35 rfl (fun z => absurd z (by decide)) (fun _ => ?_)
  refine aw_aload_n (i := 0) rfl d_X11_constable_38 0 rfl ?_
  refine aw_geti (k0 := 7) kc_11 (ws_0 wHF) (Nat.le_of_ble_eq_true rfl) tw_494 d_X11_constable_39 rfl ?_
  refine aw_vi (v2 := 0) e07 ?_
  refine aw_bipush (v := 12) d_X11_constable_42 ib_12 ?_
  refine aw_icmp_lt (tgt := 49) d_X11_constable_44 rfl (fun _ => ?_) (fun z => absurd (by decide) z)
  refine aw_new (ci := 2) 401 kc_2 tw_144 tw_566 tw_15 hf_n401 (by decide) xs0 (Nat.le_of_ble_eq_true rfl) (Nat.le_of_ble_eq_true rfl) d_X11_constable_49 ?_
  have w1 : Wf (h_nw HF 401 (2 + 10) 17) := Wf_nw wHF (by decide +kernel)
  have s1 : h_sh (h_nw HF 401 (2 + 10) 17) 401 = some (12, 17) := by rw [h_sh_nw, if_pos rfl]
  have f1 : FrM (h_nw HF 401 (2 + 10) 17) := fHF.nw (by decide)
  have e1 : h_i (h_nw HF 401 (2 + 10) 17) 0 7 = 0 := (hi_nw (by decide)).trans e07
  generalize h_nw HF 401 (2 + 10) 17 = X at w1 s1 f1 e1 ⊢
  refine aw_dup d_X11_constable_52 rfl ?_
  refine aw_aload_n (i := 0) rfl d_X11_constable_53 0 rfl ?_
  refine aw_geti (k0 := 7) kc_11 (ws_0 w1) (Nat.le_of_ble_eq_true rfl) tw_494 d_X11_constable_54 rfl ?_
  refine aw_vi (v2 := 0) e1 ?_
  refine aw_iload_n (i := 1) rfl d_X11_constable_57 1 rfl ?_
  refine aw_iload_n (i := 2) rfl d_X11_constable_58 2 rfl ?_
  refine aw_iload_n (i := 3) rfl d_X11_constable_59 3 rfl ?_
  refine aw_callI (vs := [.int 0, .int x1, .int x2, .int x3]) (a := 401) (rest := [.ref 401]) d_X11_constable_60 (cI_X2_init (d + 1) 0 0) ⟨rfl, rfl⟩ tw_568 tw_567 rfl ⟨show d + 1 + 1 ≤ d + 2 by omega, show 8 + (5 + 11) + 100 * (d + 1) ≤ 100 * (d + 2) by omega⟩ (by decide) ⟨Nat.le_of_ble_eq_true rfl, Nat.le_of_ble_eq_true rfl⟩ xs0 (k_X2_init_401 d _ 0 x1 x2 x3 s1 (fun a _ z => absurd z (Nat.not_lt_zero a))) (fun v h9 kk => ?_)
  obtain ⟨ev1, ev2⟩ := kk
  rw [ev1, ev2]
  generalize hg : CH_401 X 0 x1 x2 x3 = h2
  have w2 : Wf h2 := by rw [← hg]; exact w1
  have s2 : h_sh h2 401 = some (12, 17) := by rw [← hg]; exact s1
  have f2 : FrM h2 := by
    rw [← hg]
    exact (((((((f1.im (by decide)).im (by decide)).im (by decide)).im (by decide)).im (by decide)).im (by decide)).im (by decide)).im (by decide)
  have e2 : h_i h2 0 7 = 0 := by rw [← hg]; exact e1
  have n2 : h_i h2 401 0 = 0 := by rw [← hg]; rfl
  refine aw_astore [(0, .ref 0), (1, .int x1), (2, .int x2), (3, .int x3), (4, .int 1), (5, .ref 401)] d_X11_constable_63 (Nat.le_of_ble_eq_true rfl) rfl rfl ?_
  refine aw_aload_n (i := 0) rfl d_X11_constable_65 0 rfl ?_
  refine aw_getr (k0 := 6) kc_11 (ws_0 w2) (Nat.le_of_ble_eq_true rfl) tw_493 d_X11_constable_66 rfl (wr_0_6 w2) ?_
  refine aw_aload_n (i := 0) rfl d_X11_constable_69 0 rfl ?_
  refine aw_geti (k0 := 7) kc_11 (ws_0 w2) (Nat.le_of_ble_eq_true rfl) tw_494 d_X11_constable_70 rfl ?_
  refine aw_vi (v2 := 0) e2 ?_
  refine aw_aload d_X11_constable_73 5 rfl ?_
  refine aw_aast (ws_15 w2) (vin_c (by decide)) s2 d_X11_constable_75 ?_
  obtain ⟨w3, s3, f3, e3, n3⟩ := rm_facts (k := (0 : Int32).toNatClampNeg) w2 (by decide +kernel) s2 f2 e2 n2
  generalize h_rm h2 15 (0 : Int32).toNatClampNeg (some 401) = Y at w3 s3 f3 e3 n3 ⊢
  refine aw_aload_n (i := 0) rfl d_X11_constable_76 0 rfl ?_
  refine aw_dup d_X11_constable_77 rfl ?_
  refine aw_geti (k0 := 7) kc_11 (ws_0 w3) (Nat.le_of_ble_eq_true rfl) tw_494 d_X11_constable_78 rfl ?_
  refine aw_vi (v2 := 0) e3 ?_
  refine aw_iconst (v := 1) d_X11_constable_81 ic_1 ?_
  refine aw_iadd d_X11_constable_82 ?_
  refine aw_puti (k0 := 7) kc_11 (ws_0 w3) (Nat.le_of_ble_eq_true rfl) tw_494 d_X11_constable_83 rfl rfl nf_i ?_
  refine aw_aload_n (i := 0) rfl d_X11_constable_86 0 rfl ?_
  refine aw_aload d_X11_constable_87 5 rfl ?_
  refine aw_iload_n (i := 3) rfl d_X11_constable_89 3 rfl ?_
  have hp : Cv (m_X11_putAt (d + 0) 0 0) [.ref 0, .ref 401, .int x3] (h_im Y 0 7 (0 + 1)) (fun h' => Wf h' ∧ FrM h' ∧ h_sh h' 401 = some (12, 17) ∧ h_i h' 401 0 = 0) :=
    t_X11_putAt d (h_im Y 0 7 (0 + 1)) (w3.im 0 7 (0 + 1)) 401 ((congrFun h_sh_im 401).trans s3) (by decide) x3 _ ⟨fun _ => put_facts w3 s3 f3 n3 _ _ _, fun _ => put_facts w3 s3 f3 n3 _ _ _⟩
  refine aw_Vv 0 [.ref 401, .int x3] [] d_X11_constable_90 (cV_X11_putAt (d + 0) 0 0) kc_11 (ws_0 (w3.im 0 7 (0 + 1))) tw_634 rfl (rr1 (Nat.le_of_ble_eq_true rfl) (Nat.le_of_ble_eq_true rfl) (Nat.le_of_ble_eq_true rfl) (Nat.le_of_ble_eq_true rfl)) (by decide) xs0 hp (fun h5 kk => ?_)
  obtain ⟨w5, f5, s5, n5⟩ := kk
  refine aw_aload d_X11_constable_93 5 rfl ?_
  refine aw_geti (k0 := 0) kc_2 s5 (Nat.le_of_ble_eq_true rfl) tw_573 d_X11_constable_95 rfl ?_
  exact aw_iret rfl d_X11_constable_98 ⟨Nat.le_of_ble_eq_true rfl, Nat.le_of_ble_eq_true rfl⟩ ⟨_, rfl, n5.trans (if_pos ⟨c1, c2, c3⟩).symm, w5, f5⟩
