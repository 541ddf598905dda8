/-! the class's constable -/
theorem c_manInit (d : Nat) (h : Hp_) (a : Nat) (x1 x2 x3 x4 : Int32) (hs : h_sh h a = some (12, 17)) : Cv (m_X2_init (d + 1) 0 0) [.ref a, .int x1, .int x2, .int x3, .int x4] h (fun h' => h_sh h' = h_sh h ∧ h_r h' = h_r h ∧ (∀ b k, b ≠ a → h_i h' b k = h_i h b k) ∧ h_i h' a 0 = x1 ∧ h_i h' a 1 = x2) := by
  refine Ct.of (fun _ _ _ => trivial) rfl (Nat.le_of_ble_eq_true rfl) ?_
  show AW (m_X2_init (d + 1) 0 0) 0 0 0 [(0, .ref a), (1, .int x1), (2, .int x2), (3, .int x3), (4, .int x4)] [] h (kV _)
  refine aw_aload_n (i := 0) rfl d_X2_init_0 0 rfl ?_
  refine aw_objInit (rest := []) d_X2_init_1 tw_570 tw_33 tw_34 (show 1 ≤ d + 1 by omega) (show 0 + 12 ≤ 100 * (d + 1) by omega) ?_
  refine aw_aload_n (i := 0) rfl d_X2_init_4 0 rfl ?_
  refine aw_iconst (v := 0) d_X2_init_5 ic_0 ?_
  refine aw_puti (k0 := 4) kc_2 hs (Nat.le_of_ble_eq_true rfl) tw_580 d_X2_init_6 rfl rfl nf_i ?_
  refine aw_aload_n (i := 0) rfl d_X2_init_9 0 rfl ?_
  refine aw_iconst (v := (-1)) d_X2_init_10 ic_m1 ?_
  refine aw_puti (k0 := 5) kc_2 hs (Nat.le_of_ble_eq_true rfl) tw_582 d_X2_init_11 rfl rfl nf_i ?_
  refine aw_aload_n (i := 0) rfl d_X2_init_14 0 rfl ?_
  refine aw_iconst (v := (-1)) d_X2_init_15 ic_m1 ?_
  refine aw_puti (k0 := 6) kc_2 hs (Nat.le_of_ble_eq_true rfl) tw_584 d_X2_init_16 rfl rfl nf_i ?_
  refine aw_aload_n (i := 0) rfl d_X2_init_19 0 rfl ?_
  refine aw_iconst (v := (-1)) d_X2_init_20 ic_m1 ?_
  refine aw_puti (k0 := 7) kc_2 hs (Nat.le_of_ble_eq_true rfl) tw_586 d_X2_init_21 rfl rfl nf_i ?_
  refine aw_aload_n (i := 0) rfl d_X2_init_24 0 rfl ?_
  refine aw_iload_n (i := 1) rfl d_X2_init_25 1 rfl ?_
  refine aw_putiF (k0 := 0) kc_2 hs (Nat.le_of_ble_eq_true rfl) tw_571 d_X2_init_26 rfl rfl rfl rfl nf_i ?_
  refine aw_aload_n (i := 0) rfl d_X2_init_29 0 rfl ?_
  refine aw_iload_n (i := 2) rfl d_X2_init_30 2 rfl ?_
  refine aw_putiF (k0 := 1) kc_2 hs (Nat.le_of_ble_eq_true rfl) tw_574 d_X2_init_31 rfl rfl rfl rfl nf_i ?_
  refine aw_aload_n (i := 0) rfl d_X2_init_34 0 rfl ?_
  refine aw_iload_n (i := 3) rfl d_X2_init_35 3 rfl ?_
  refine aw_putiF (k0 := 2) kc_2 hs (Nat.le_of_ble_eq_true rfl) tw_576 d_X2_init_36 rfl rfl rfl rfl nf_i ?_
  refine aw_aload_n (i := 0) rfl d_X2_init_39 0 rfl ?_
  refine aw_iload d_X2_init_40 4 rfl ?_
  refine aw_putiF (k0 := 3) kc_2 hs (Nat.le_of_ble_eq_true rfl) tw_578 d_X2_init_42 rfl rfl rfl rfl nf_i ?_
  refine aw_vret rfl d_X2_init_45 ⟨Nat.le_refl _, Nat.le_refl _⟩ ⟨rfl, rfl, rfl, fun b k hb => ?_, ?_, ?_⟩
  · rw [hi_n _ _ _ _ _ _ hb, hi_n _ _ _ _ _ _ hb, hi_n _ _ _ _ _ _ hb, hi_n _ _ _ _ _ _ hb, hi_n _ _ _ _ _ _ hb, hi_n _ _ _ _ _ _ hb, hi_n _ _ _ _ _ _ hb, hi_n _ _ _ _ _ _ hb]
  · rw [h_i_im, if_neg (fun y => absurd y.2 (by decide)), h_i_im, if_neg (fun y => absurd y.2 (by decide)), h_i_im, if_neg (fun y => absurd y.2 (by decide)), h_i_im, if_pos ⟨rfl, rfl⟩]
  · rw [h_i_im, if_neg (fun y => absurd y.2 (by decide)), h_i_im, if_neg (fun y => absurd y.2 (by decide)), h_i_im, if_pos ⟨rfl, rfl⟩]
/-- what a call of the class that makes cells leaves -/
def Cx (h h' : Hp_) : Prop := Iv h' ∧ Mf wsC h h' ∧ h_r h' 0 15 = h_r h 0 15 ∧ ∀ c N, h_r h 0 15 = some c → h_sh h c = some (3, N) → h_sh h' c = some (3, N)
theorem Cx.fr {ws : List Nat} {h0 h h' : Hp_} (x : Cx h0 h) (I : Iv h') (f : Fr ws h h') (c : (mfo wsC ws && !(inw ws 0 15)) = true) : Cx h0 h' := by
  rw [Bool.and_eq_true, Bool.not_eq_true'] at c
  exact ⟨I, x.2.1.tr (Mf.fr c.1 f), by rw [(f.2 0 15 c.2).2.2]; exact x.2.2.1, fun a N h1 h2 => by rw [f.1]; exact x.2.2.2 a N h1 h2⟩
theorem Cx.rf {h : Hp_} (I : Iv h) : Cx h h := ⟨I, Mf.rf h, rfl, fun _ _ _ z => z⟩
/-- constable is taken -/
def okc (m x1 x2 x3 : Int32) : Prop := (1 ≤ x1 ∧ x1 ≤ 4) ∧ (0 ≤ x2 ∧ x2 ≤ 40) ∧ (0 ≤ x3 ∧ x3 < 16) ∧ m < 12
/-- what constable answers, and how many men there are then -/
def ocs (m x1 x2 x3 r m' : Int32) : Prop := (okc m x1 x2 x3 ∧ r = m ∧ m' = m + 1) ∨ (¬ okc m x1 x2 x3 ∧ r = -1 ∧ m' = m)
/-- the men that are counted are there -/
def Mn (h : Hp_) : Prop := ∀ k : Nat, k < 12 → (k : Int) < (h_i h 0 7).toInt → h_r h 15 k ≠ none
/-- the man that comes, and the men that were -/
def Cz (ok : Prop) (m x1 : Int32) (h h' : Hp_) : Prop := (ok → h_r h' 15 m.toNatClampNeg = some (401 + m.toNatClampNeg) ∧ h_i h' (401 + m.toNatClampNeg) 0 = m ∧ h_i h' (401 + m.toNatClampNeg) 1 = x1) ∧ ∀ k, (k ≠ m.toNatClampNeg ∨ ¬ ok) → h_r h' 15 k = h_r h 15 k ∧ (k < 12 → ∀ f, f ≤ 3 → h_i h' (401 + k) f = h_i h (401 + k) f)
def Cy (x1 x2 x3 : Int32) (h : Hp_) (r : Int32) (h' : Hp_) : Prop := Cx h h' ∧ ocs (h_i h 0 7) x1 x2 x3 r (h_i h' 0 7) ∧ (Mn h → Mn h') ∧ Cz (okc (h_i h 0 7) x1 x2 x3) (h_i h 0 7) x1 h h'
theorem inw_ce {ws : List Nat} {a b k : Nat} (e : cn a = cn b) : inw ws a k = inw ws b k := by unfold inw; rw [e]
theorem cn_man {j : Nat} (h : j < 12) : cn (401 + j) = 401 := by
  unfold cn
  have a : Nat.ble 401 (401 + j) = true := Nat.ble_eq.mpr (by omega)
  have b : Nat.ble (401 + j) 412 = true := Nat.ble_eq.mpr (by omega)
  rw [a, b]
  rfl
theorem c_constable (d : Nat) {h : Hp_} (I : Iv h) (x1 x2 x3 : Int32) : Ci (m_X11_constable (d + 2) 1 17) [.ref 0, .int x1, .int x2, .int x3] h (Cy x1 x2 x3 h) := by
  have w := I.1
  have t12 : (12 : Int32).toInt = 12 := rfl
  have er : rin (h_i h 0 7).toInt (0, 12) := by
    have := I.2.1 0 7
    rwa [show tf 0 7 = (0, 12) by decide +kernel] at this
  have er0 : 0 ≤ (h_i h 0 7).toInt := er.1
  have bad : ¬ okc (h_i h 0 7) x1 x2 x3 → ∀ lv, AW (m_X11_constable (d + 2) 1 17) 0 0 47 lv [] h (kI (Cy x1 x2 x3 h)) := fun no lv => by
    refine aw_iconst (v := (-1)) d_X11_constable_47 ic_m1 ?_
    exact aw_iret rfl d_X11_constable_48 ⟨Nat.le_of_ble_eq_true rfl, Nat.le_of_ble_eq_true rfl⟩ ⟨_, rfl, Cx.rf I, Or.inr ⟨no, rfl, rfl⟩, id, fun o => absurd o no, fun _ _ => ⟨rfl, fun _ _ _ => rfl⟩⟩
  have no : ¬ okc (h_i h 0 7) x1 x2 x3 → AW (m_X11_constable (d + 2) 1 17) 0 0 30 [(0, .ref 0), (1, .int x1), (2, .int x2), (3, .int x3)] [] h (kI (Cy x1 x2 x3 h)) := fun no => by
    refine aw_iconst (v := 0) d_X11_constable_30 ic_0 ?_
    refine aw_istore [(0, .ref 0), (1, .int x1), (2, .int x2), (3, .int x3), (4, .int 0)] d_X11_constable_31 (Nat.le_of_ble_eq_true rfl) rfl rfl ?_
    refine aw_iload d_X11_constable_33 4 rfl ?_
    refine aw_if_eq (tgt := 47) d_X11_constable_35 rfl (fun _ => bad no _) (fun z => absurd rfl z)
  have rr2 : ∀ {y : MethodName} {cc : ByteArray} {nL : Nat} {ret : Option FieldType}, nL ≤ 81 → rr_ (fun _ _ _ => True, y, cc, nL, ret, { frames := d + 0, cells := 0, slots := 0, locals := 100 * (d + 0) }) (m_X11_constable (d + 2) 1 17) 0 0 := fun {y cc nL ret} hn => ⟨⟨show d + 0 + 1 ≤ d + 2 by omega, show 8 + (nL + 11) + 100 * (d + 0) ≤ 100 * (d + 2) by omega⟩, Nat.zero_le _, Nat.zero_le _⟩
  refine Ct.of (fun _ _ _ => trivial) rfl (Nat.le_of_ble_eq_true rfl) ?_
  show AW (m_X11_constable (d + 2) 1 17) 0 0 0 [(0, .ref 0), (1, .int x1), (2, .int x2), (3, .int x3)] [] h (kI (Cy x1 x2 x3 h))
  refine aw_iload_n (i := 1) rfl d_X11_constable_0 1 rfl ?_
  refine aw_iconst (v := 1) d_X11_constable_1 ic_1 ?_
  refine aw_iconst (v := 4) d_X11_constable_2 ic_4 ?_
  refine aw_Si [.int x1, .int 1, .int 4] [] d_X11_constable_3 (cS_X11_within (d + 0) 0 0) tw_543 rfl (rr2 (Nat.le_of_ble_eq_true rfl)) (by decide) xs0 (s_X11_within _ _ x1 1 4) (fun _ _ kk => ?_)
  obtain ⟨e1, e2⟩ := kk
  rw [e1, e2]
  refine aw_ifb_eq (tgt := 30) d_X11_constable_6 rfl (fun z => no (fun o => z o.1)) (fun c1 => ?_)
  refine aw_iload_n (i := 2) rfl d_X11_constable_9 2 rfl ?_
  refine aw_iconst (v := 0) d_X11_constable_10 ic_0 ?_
  refine aw_bipush (v := 40) d_X11_constable_11 ib_40 ?_
  refine aw_Si [.int x2, .int 0, .int 40] [] d_X11_constable_13 (cS_X11_within (d + 0) 0 0) tw_543 rfl (rr2 (Nat.le_of_ble_eq_true rfl)) (by decide) xs0 (s_X11_within _ _ x2 0 40) (fun _ _ kk => ?_)
  obtain ⟨e1, e2⟩ := kk
  rw [e1, e2]
  refine aw_ifb_eq (tgt := 30) d_X11_constable_16 rfl (fun z => no (fun o => z o.2.1)) (fun c2 => ?_)
  refine aw_iload_n (i := 3) rfl d_X11_constable_19 3 rfl ?_
  refine aw_Si [.int x3] [] d_X11_constable_20 (cS_X11_isPlace (d + 0) 0 0) tw_540 rfl (rr2 (Nat.le_of_ble_eq_true rfl)) (by decide) xs0 (s_X11_isPlace _ _ x3) (fun _ _ kk => ?_)
  obtain ⟨e1, e2⟩ := kk
  rw [e1, e2]
  refine aw_ifb_eq (tgt := 30) d_X11_constable_23 rfl (fun z => no (fun o => z o.2.2.1)) (fun c3 => ?_)
  refine aw_iconst (v := 1) d_X11_constable_26 ic_1 ?_
  refine aw_goto (tgt := 31) d_X11_constable_27 rfl ?_
  refine aw_istore [(0, .ref 0), (1, .int x1), (2, .int x2), (3, .int x3), (4, .int 1)] d_X11_constable_31 (Nat.le_of_ble_eq_true rfl) rfl rfl ?_
  refine aw_iload d_X11_constable_33 4 rfl ?_
  refine aw_if_eq (tgt := 47) d_X11_constable_35 rfl (fun z => absurd z (by decide)) (fun _ => ?_)
  refine aw_aload_n (i := 0) rfl d_X11_constable_38 0 rfl ?_
  refine aw_geti (k0 := 7) kc_11 (ws_0 w) (Nat.le_of_ble_eq_true rfl) tw_494 d_X11_constable_39 rfl ?_
  refine aw_bipush (v := 12) d_X11_constable_42 ib_12 ?_
  refine aw_icmp_lt (tgt := 49) d_X11_constable_44 rfl (fun z => ?_) (fun z => bad (fun o => z o.2.2.2) _)
  have ok : okc (h_i h 0 7) x1 x2 x3 := ⟨c1, c2, c3, z⟩
  have z := q_lt.mp z
  obtain ⟨j, ej, hj⟩ : ∃ j : Nat, h_i h 0 7 = Int32.ofNat j ∧ j < 12 := ⟨(h_i h 0 7).toInt.toNat, by
    refine Int32.toInt_inj.mp ?_
    rw [on_i (by omega)]
    omega, by omega⟩
  have oj := on_i (n := j) (by omega)
  have cj := on_c (n := j) (by omega)
  have fr : h_sh h (401 + j) = none := I.2.2.2.2.2.2.1 j hj (by rw [ej, oj]; exact Int.le_refl _)
  refine aw_new (ci := 2) (401 + j) kc_2 tw_144 tw_566 tw_15 fr (by omega) xs0 (Nat.le_of_ble_eq_true rfl) (Nat.le_of_ble_eq_true rfl) d_X11_constable_49 ?_
  have s1 : h_sh (h_nw h (401 + j) (2 + 10) 17) (401 + j) = some (12, 17) := by rw [y_sh, if_pos rfl]
  have s0 : h_sh (h_nw h (401 + j) (2 + 10) 17) 0 = some (21, 16) := by rw [y_sh, if_neg (by omega)]; exact ws_0 w
  refine aw_dup d_X11_constable_52 rfl ?_
  refine aw_aload_n (i := 0) rfl d_X11_constable_53 0 rfl ?_
  refine aw_geti (k0 := 7) kc_11 s0 (Nat.le_of_ble_eq_true rfl) tw_494 d_X11_constable_54 rfl ?_
  refine aw_iload_n (i := 1) rfl d_X11_constable_57 1 rfl ?_
  refine aw_iload_n (i := 2) rfl d_X11_constable_58 2 rfl ?_
  refine aw_iload_n (i := 3) rfl d_X11_constable_59 3 rfl ?_
  refine aw_callI (vs := [.int (h_i (h_nw h (401 + j) (2 + 10) 17) 0 7), .int x1, .int x2, .int x3]) (a := 401 + j) (rest := [.ref (401 + j)]) d_X11_constable_60 (cI_X2_init (d + 1) 0 0) ⟨rfl, rfl⟩ tw_568 tw_567 rfl ⟨show d + 1 + 1 ≤ d + 2 by omega, show 8 + (5 + 11) + 100 * (d + 1) ≤ 100 * (d + 2) by omega⟩ (Nat.le_of_ble_eq_true rfl) ⟨Nat.le_of_ble_eq_true rfl, Nat.le_of_ble_eq_true rfl⟩ xs0 (c_manInit d _ (401 + j) _ x1 x2 x3 s1) (fun v h2 kk => ?_)
  obtain ⟨ev, s2, r2, i2, n2, q2⟩ := kk
  rw [ev]
  have sA : ∀ a, h_sh h2 a = if a = 401 + j then some (12, 17) else h_sh h a := fun a => by rw [s2, y_sh]
  have iA : ∀ a k, a ≠ 401 + j → h_i h2 a k = h_i h a k := fun a k ha => by rw [i2 a k ha, y_i, if_neg ha]
  have rA : ∀ a k, a ≠ 401 + j → h_r h2 a k = h_r h a k := fun a k ha => by rw [r2, y_r, if_neg ha]
  have w20 : h_sh h2 0 = some (21, 16) := by rw [sA, if_neg (by omega)]; exact ws_0 w
  have w215 : h_sh h2 15 = some (4, 12) := by rw [sA, if_neg (by omega)]; exact ws_15 w
  have w2r : h_r h2 0 6 = some 15 := by rw [rA 0 6 (by omega)]; exact wr_0_6 w
  have w2s : h_sh h2 (401 + j) = some (12, 17) := by rw [sA, if_pos rfl]
  have e7 : h_i h2 0 7 = Int32.ofNat j := by rw [iA 0 7 (by omega)]; exact ej
  refine aw_astore [(0, .ref 0), (1, .int x1), (2, .int x2), (3, .int x3), (4, .int 1), (5, .ref (401 + j))] d_X11_constable_63 (Nat.le_of_ble_eq_true rfl) rfl rfl ?_
  refine aw_aload_n (i := 0) rfl d_X11_constable_65 0 rfl ?_
  refine aw_getr (k0 := 6) kc_11 w20 (Nat.le_of_ble_eq_true rfl) tw_493 d_X11_constable_66 rfl w2r ?_
  refine aw_aload_n (i := 0) rfl d_X11_constable_69 0 rfl ?_
  refine aw_geti (k0 := 7) kc_11 w20 (Nat.le_of_ble_eq_true rfl) tw_494 d_X11_constable_70 rfl ?_
  refine aw_vi (v2 := Int32.ofNat j) e7 ?_
  refine aw_aload d_X11_constable_73 5 rfl ?_
  refine aw_aast w215 (dp_in (lo := 0) (hi := 11) ⟨by show (0 : Int) ≤ _; omega, by show _ ≤ (11 : Int); omega⟩ (by decide) (by decide)) w2s d_X11_constable_75 ?_
  rw [cj]
  refine aw_aload_n (i := 0) rfl d_X11_constable_76 0 rfl ?_
  refine aw_dup d_X11_constable_77 rfl ?_
  refine aw_geti (k0 := 7) kc_11 (h := h_rm h2 15 j (some (401 + j))) w20 (Nat.le_of_ble_eq_true rfl) tw_494 d_X11_constable_78 rfl ?_
  refine aw_iconst (v := 1) d_X11_constable_81 ic_1 ?_
  refine aw_iadd d_X11_constable_82 ?_
  have t1 : (1 : Int32).toInt = 1 := rfl
  refine aw_vi (v2 := Int32.ofNat (j + 1)) (by
    show h_i h2 0 7 + 1 = _
    rw [e7]
    refine Int32.toInt_inj.mp ?_
    rw [tx_add (by rw [t1]; omega) (by rw [t1]; omega), oj, t1, on_i (by omega)]
    omega) ?_
  refine aw_puti (k0 := 7) kc_11 (h := h_rm h2 15 j (some (401 + j))) w20 (Nat.le_of_ble_eq_true rfl) tw_494 d_X11_constable_83 rfl rfl nf_i ?_
  have I4 : Iv (h_im (h_rm h2 15 j (some (401 + j))) 0 7 (Int32.ofNat (j + 1))) := by
    refine Iv_man I hj ej (fun a => sA a) (fun a k ha hk => ?_) (by rw [h_i_im, if_pos ⟨rfl, rfl⟩]) (fun a k ha hk => ?_) ?_
    · rw [h_i_im, if_neg hk]; exact iA a k ha
    · show h_r (h_rm h2 15 j (some (401 + j))) a k = _
      rw [h_r_rm, if_neg hk]; exact rA a k ha
    · show h_r (h_rm h2 15 j (some (401 + j))) 15 j = _
      rw [h_r_rm, if_pos ⟨rfl, rfl⟩]
  have x4 : Cx h (h_im (h_rm h2 15 j (some (401 + j))) 0 7 (Int32.ofNat (j + 1))) := by
    refine ⟨I4, ⟨fun k => ?_, fun a h1 h2' k => ?_, ?_, fun a k ha hw => ?_⟩, ?_, fun c N hc hN => ?_⟩
    · rw [h_i_im, if_neg (fun y => absurd y.1 (by decide))]; exact iA 1 k (by omega)
    · rw [h_i_im, if_neg (fun y => by omega)]; exact iA a k (by omega)
    · show h_sh h2 2 = _
      rw [sA, if_neg (by omega)]
    · have na : a ≠ 401 + j := fun y => by rw [y, inw_ce (b := 401) ((cn_man hj).trans (by decide)), inw_row (a := 401) (by decide +kernel) k] at hw; cases hw
      refine ⟨by rw [h_i_im, if_neg (fun y => by rw [y.1, y.2] at hw; exact absurd hw (by decide +kernel))]; exact iA a k na, ?_⟩
      show h_r (h_rm h2 15 j (some (401 + j))) a k = _
      rw [h_r_rm, if_neg (fun y => by rw [y.1, inw_row (a := 15) (by decide +kernel) k] at hw; cases hw)]
      exact rA a k na
    · show h_r (h_rm h2 15 j (some (401 + j))) 0 15 = _
      rw [h_r_rm, if_neg (fun y => absurd y.1 (by decide))]; exact rA 0 15 (by omega)
    · show h_sh h2 c = _
      rw [sA, if_neg (fun y => by rw [y, fr] at hN; cases hN)]; exact hN
  have cn4 : Cn (h_im (h_rm h2 15 j (some (401 + j))) 0 7 (Int32.ofNat (j + 1))) (401 + j) := ⟨by omega, by omega, w2s⟩
  have m4 : h_i (h_im (h_rm h2 15 j (some (401 + j))) 0 7 (Int32.ofNat (j + 1))) 0 7 = h_i h 0 7 + 1 := by
    rw [h_i_im, if_pos ⟨rfl, rfl⟩, ej]
    refine Int32.toInt_inj.mp ?_
    rw [tx_add (by rw [t1]; omega) (by rw [t1]; omega), oj, t1, on_i (by omega)]
    omega
  have n4 : h_i (h_im (h_rm h2 15 j (some (401 + j))) 0 7 (Int32.ofNat (j + 1))) (401 + j) 0 = h_i h 0 7 := by
    rw [h_i_im, if_neg (fun y => by omega)]
    show h_i h2 (401 + j) 0 = _
    rw [n2, y_i, if_neg (by omega)]
  have q4 : h_i (h_im (h_rm h2 15 j (some (401 + j))) 0 7 (Int32.ofNat (j + 1))) (401 + j) 1 = x1 := by
    rw [h_i_im, if_neg (fun y => by omega)]
    exact q2
  have i4 : ∀ k f, k ≠ j → h_i (h_im (h_rm h2 15 j (some (401 + j))) 0 7 (Int32.ofNat (j + 1))) (401 + k) f = h_i h (401 + k) f := fun k f ne => by
    rw [h_i_im, if_neg (fun y => by omega)]
    exact iA (401 + k) f (by omega)
  have r4 : ∀ k, h_r (h_im (h_rm h2 15 j (some (401 + j))) 0 7 (Int32.ofNat (j + 1))) 15 k = if k = j then some (401 + j) else h_r h 15 k := fun k => by
    show h_r (h_rm h2 15 j (some (401 + j))) 15 k = _
    rw [h_r_rm]
    by_cases e : k = j
    · rw [if_pos ⟨rfl, e⟩, if_pos e]
    · rw [if_neg (fun y => e y.2), if_neg e]; exact rA 15 k (by omega)
  generalize h_im (h_rm h2 15 j (some (401 + j))) 0 7 (Int32.ofNat (j + 1)) = h4 at I4 x4 cn4 m4 n4 r4 q4 i4 ⊢
  refine aw_aload_n (i := 0) rfl d_X11_constable_86 0 rfl ?_
  refine aw_aload d_X11_constable_87 5 rfl ?_
  refine aw_iload_n (i := 3) rfl d_X11_constable_89 3 rfl ?_
  refine aw_Vk (M' := m_X11_putAt (d + 0) 0 0) [.ref (401 + j), .int x3] (hc_X11_putAt d) ⟨⟨x3, rfl, rtop_in _, fun _ y => (nomatch y)⟩, ⟨401 + j, rfl, cn4⟩, rfl, trivial⟩ I4 (fun _ y => (nomatch y)) d_X11_constable_90 (cV_X11_putAt (d + 0) 0 0) kc_11 (ws_0 I4.1) tw_634 rfl (Nat.le_of_ble_eq_true rfl) ⟨⟨show d + 0 + 1 ≤ d + 2 by omega, show 8 + (_ + 11) + 100 * (d + 0) ≤ 100 * (d + 2) from Nat.le_trans (Nat.add_le_add_right (Nat.le_of_ble_eq_true rfl : 8 + (_ + 11) ≤ 200) _) (by omega)⟩, rfl, rfl, xs0⟩ ⟨Nat.le_of_ble_eq_true rfl, Nat.le_of_ble_eq_true rfl⟩ (fun v h5 kv => ?_)
  have ev : v = none := kv.2.2.2
  subst ev
  refine aw_aload d_X11_constable_93 5 rfl ?_
  refine aw_geti (k0 := 0) kc_2 (Cn_fr kv.2.1 cn4).2.2 (Nat.le_of_ble_eq_true rfl) tw_573 d_X11_constable_95 rfl ?_
  refine aw_iret rfl d_X11_constable_98 ⟨Nat.le_of_ble_eq_true rfl, Nat.le_of_ble_eq_true rfl⟩ ⟨_, rfl, x4.fr kv.1 kv.2.1 (by decide +kernel), Or.inl ⟨ok, by rw [(kv.2.1.2 (401 + j) 0 (by rw [inw_ce (b := 401) ((cn_man hj).trans (by decide))]; decide +kernel)).1]; exact n4, by rw [(kv.2.1.2 0 7 (by decide +kernel)).1]; exact m4⟩, fun mn k hk hm => ?_, fun _ => ?_, fun k hk => ⟨?_, fun l f lf => ?_⟩⟩
  · rw [(kv.2.1.2 0 7 (by decide +kernel)).1, m4, ej, tx_add (by rw [t1, oj]; omega) (by rw [t1, oj]; omega), oj, t1] at hm
    rw [(kv.2.1.2 15 k (off_inw (by decide +kernel) k)).2.2, r4]
    by_cases e : k = j
    · rw [if_pos e]; exact fun y => by cases y
    · rw [if_neg e]; exact mn k hk (by rw [ej, oj]; omega)
  · rw [ej, cj, (kv.2.1.2 15 j (off_inw (by decide +kernel) j)).2.2, r4, if_pos rfl, (kv.2.1.2 (401 + j) 0 (by rw [inw_ce (b := 401) ((cn_man hj).trans (by decide))]; decide +kernel)).1, (kv.2.1.2 (401 + j) 1 (by rw [inw_ce (b := 401) ((cn_man hj).trans (by decide))]; decide +kernel)).1, n4, q4]
    exact ⟨rfl, ej, rfl⟩
  · have nk : k ≠ j := fun e => hk.elim (fun y => y (by rw [ej, cj]; exact e)) (fun y => y ok)
    rw [(kv.2.1.2 15 k (off_inw (by decide +kernel) k)).2.2, r4, if_neg nk]
  · have nk : k ≠ j := fun e => hk.elim (fun y => y (by rw [ej, cj]; exact e)) (fun y => y ok)
    have z : inw wz_X11_putAt (401 + k) f = false := by
      rw [inw_ce (b := 401) ((cn_man l).trans (by decide))]
      have zz : (List.range 4).all (fun f => !inw wz_X11_putAt 401 f) = true := by decide +kernel
      have y := List.all_eq_true.mp zz f (List.mem_range.mpr (by omega))
      rw [Bool.not_eq_true'] at y
      exact y
    rw [(kv.2.1.2 (401 + k) f z).1]
    exact i4 k f nk
