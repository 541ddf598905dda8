section
theorem rr_im {h : Hp_} {a k c s : Nat} {x : Int32} {y : Option Nat} (hr : h_r h c s = y) : h_r (h_im h a k x) c s = y := hr
theorem rr_step {h : Hp_} {k t n c s c' s' : Nat} {r y : Option Nat} (hr : h_r h c' s' = y) (h1 : c' ≠ k) (h2 : s' ≠ s) : h_r (h_rm (h_nw h k t n) c s r) c' s' = y := by
  rw [h_r_rm, if_neg (fun z => h2 z.2), h_r_nw, if_neg h1]
  exact hr
theorem rr_of {h : Hp_} {k t n c s b c' : Nat} {x : Option (Nat × Nat)} (_ : h_sh (h_rm (h_nw h k t n) c s (some b)) c' = x) : h_r (h_rm (h_nw h k t n) c s (some b)) c s = some b := by rw [h_r_rm, if_pos ⟨rfl, rfl⟩]
theorem sh_of {h : Hp_} {k t n c s b c' : Nat} {x : Option (Nat × Nat)} (_ : h_sh (h_rm (h_nw h k t n) c s (some b)) c' = x) : h_sh (h_rm (h_nw h k t n) c s (some b)) k = some (t, n) := by rw [h_sh_rm, h_sh_nw, if_pos rfl]
theorem ss_im {h : Hp_} {a k c : Nat} {x : Int32} {y : Option (Nat × Nat)} (hs : h_sh h c = y) : h_sh (h_im h a k x) c = y := hs
theorem nn_im {h : Hp_} {b k lo hi : Nat} {x : Int32} (hn : ∀ a, lo ≤ a → a < hi → h_sh h a = none) : ∀ a, lo ≤ a → a < hi → h_sh (h_im h b k x) a = none := hn
theorem ss_n {h : Hp_} {k t n c : Nat} {x : Option (Nat × Nat)} (hs : h_sh h c = x) (hk : c ≠ k) : h_sh (h_nw h k t n) c = x := by
  rw [h_sh_nw, if_neg hk]
  exact hs
noncomputable def wk_ : Nat → Int32 := fun k => if k / 16 = k % 16 then 0 else 1000000
theorem wk_dec : ∀ i, i < 256 → ((Int32.ofNat i / 16 = Int32.ofNat i - Int32.ofNat i / 16 * 16) ↔ i / 16 = i % 16) := by decide +kernel
theorem lp_X9 (d mc ms kc ks : Nat) (h : Hp_) (K : Option Value → Hp_ → Prop) (hs : h_sh h 10 = some (19, 2)) (hr : h_r h 10 0 = some 30) (ha : h_sh h 30 = some (0, 256)) (k : AW (m_X9_init (d + 1) mc ms) kc ks 53 [(0, .ref 10)] [] (h_iw h 30 (fl_ wk_ (h_i h 30) 256)) K) : AW (m_X9_init (d + 1) mc ms) kc ks 15 [(0, .ref 10), (1, .int 0)] [] h K := by
  have key : ∀ r i : Nat, r + i = 256 → AW (m_X9_init (d + 1) mc ms) kc ks 15 [(0, .ref 10), (1, .int (Int32.ofNat i))] [] (h_iw h 30 (fl_ wk_ (h_i h 30) i)) K := by
    intro r
    induction r with
    | zero =>
      intro i hi
      have e : i = 256 := by omega
      subst e
      refine aw_iload_n (i := 1) rfl d_X9_init_15 1 rfl ?_
      refine aw_aload_n (i := 0) rfl d_X9_init_16 0 rfl ?_
      refine aw_getr (k0 := 0) (b := 30) kc_9 hs (Nat.le_of_ble_eq_true rfl) tw_42 d_X9_init_17 rfl hr ?_
      refine aw_alen (v := 256) ha (by decide) (by decide) d_X9_init_20 ?_
      refine aw_icmp_ge (tgt := 53) d_X9_init_21 rfl (fun _ => ?_) (fun c => absurd c (by decide))
      exact aw_lvp [0] [(0, .ref 10)] rfl k
    | succ r ih =>
      intro i hi
      refine aw_iload_n (i := 1) rfl d_X9_init_15 1 rfl ?_
      refine aw_aload_n (i := 0) rfl d_X9_init_16 0 rfl ?_
      refine aw_getr (k0 := 0) (b := 30) kc_9 hs (Nat.le_of_ble_eq_true rfl) tw_42 d_X9_init_17 rfl hr ?_
      refine aw_alen (v := Int32.ofNat 256) ha (by decide) rfl d_X9_init_20 ?_
      refine aw_icmp_ge (tgt := 53) d_X9_init_21 rfl (fun c => absurd ((on_le (by decide) (by omega)).mp c) (by omega)) (fun _ => ?_)
      refine aw_aload_n (i := 0) rfl d_X9_init_24 0 rfl ?_
      refine aw_getr (k0 := 0) (b := 30) kc_9 hs (Nat.le_of_ble_eq_true rfl) tw_42 d_X9_init_25 rfl hr ?_
      refine aw_iload_n (i := 1) rfl d_X9_init_28 1 rfl ?_
      refine aw_iload_n (i := 1) rfl d_X9_init_29 1 rfl ?_
      refine aw_bipush (v := 16) d_X9_init_30 ib_16 ?_
      refine aw_idiv d_X9_init_32 (by decide) ?_
      refine aw_iload_n (i := 1) rfl d_X9_init_33 1 rfl ?_
      refine aw_bipush (v := 16) d_X9_init_34 ib_16 ?_
      refine aw_irem d_X9_init_36 (by decide) ?_
      have fin : ∀ x : Int32, x = wk_ i → AW (m_X9_init (d + 1) mc ms) kc ks 46 [(0, .ref 10), (1, .int (Int32.ofNat i))] [.int x, .int (Int32.ofNat i), .ref 30] (h_iw h 30 (fl_ wk_ (h_i h 30) i)) K := by
        intro x hx
        subst hx
        refine aw_iast ha (on_inp (by omega) (by decide)) d_X9_init_46 ?_
        refine aw_iinc (v := Int32.ofNat (i + 1)) [(0, .ref 10), (1, .int (Int32.ofNat (i + 1)))] d_X9_init_47 1 rfl (on_suc i) (Nat.le_of_ble_eq_true rfl) rfl rfl ?_
        refine aw_goto (tgt := 15) d_X9_init_50 rfl ?_
        rw [on_nat (by omega), iw_st h 30 i wk_ (h_i h 30)]
        exact ih (i + 1) (by omega)
      refine aw_icmp_ne (tgt := 44) d_X9_init_37 rfl (fun c => ?_) (fun c => ?_)
      · refine aw_ldc (v := 1000000) d_X9_init_44 tw_41 ?_
        exact fin _ (by unfold wk_; rw [if_neg (fun z => c ((wk_dec i (by omega)).mpr z))])
      · refine aw_iconst (v := 0) d_X9_init_40 ic_0 ?_
        refine aw_goto (tgt := 46) d_X9_init_41 rfl ?_
        exact fin _ (by unfold wk_; rw [if_pos ((wk_dec i (by omega)).mp c)])
  have k0 := key 256 0 (by omega)
  rw [iw_0] at k0
  exact k0

set_option maxRecDepth 100000 in
noncomputable def CH_10 (h : Hp_) : Hp_ := h_iw (h_rm (h_nw h 30 0 256) 10 0 (some 30)) 30 (fl_ wk_ (h_i (h_rm (h_nw h 30 0 256) 10 0 (some 30)) 30) 256)
set_option maxRecDepth 100000 in
theorem k_X9_init_10 (d : Nat) (h : Hp_) (hs : h_sh h 10 = some (19, 2)) (hn : ∀ a, 30 ≤ a → a < 31 → h_sh h a = none) : Cv (m_X9_init (d + 1) 1 256) [.ref 10] h (fun h' => h' = CH_10 h) := by
  refine Ct.of (fun _ _ _ => trivial) pn_X9 (Nat.le_of_ble_eq_true rfl) ?_
  show AW (m_X9_init (d + 1) 1 256) 0 0 0 [(0, .ref 10)] [] h (kV _)
  refine aw_aload_n (i := 0) rfl d_X9_init_0 0 rfl ?_
  refine aw_objInit (rest := []) d_X9_init_1 tw_40 tw_33 tw_34 (show 1 ≤ d + 1 by omega) (show 0 + 12 ≤ 100 * (d + 1) by omega) ?_
  refine aw_aload_n (i := 0) rfl d_X9_init_4 0 rfl ?_
  refine aw_sipush (v := 256) d_X9_init_5 is_256 ?_
  refine aw_newa (t := 0) (atype := .int) 30 256 (by decide) rfl tw_51 (hn 30 (by decide) (by decide)) (by decide) xs0 (by decide) (by decide) (by decide) (Nat.le_of_ble_eq_true rfl) (Nat.le_of_ble_eq_true rfl) d_X9_init_8 ?_
  refine aw_putrF (k0 := 0) kc_9 (ss_n hs (by decide)) (Nat.le_of_ble_eq_true rfl) tw_42 d_X9_init_10 rfl rfl rfl rfl ?_
  have hs1 := ss_step (k := 30) (t := 0) (n := 256) (c' := 10) (s := 0) (r := some 30) hs (by decide)
  have hn2 := nn_step (k := 30) (t := 0) (n := 256) (c := 10) (s := 0) (r := some 30) hn
  refine aw_iconst (v := 0) d_X9_init_13 ic_0 ?_
  refine aw_istore_n (i := 1) rfl [(0, .ref 10), (1, .int 0)] d_X9_init_14 (Nat.le_of_ble_eq_true rfl) rfl rfl ?_
  refine lp_X9 d _ _ _ _ _ _ hs1 rfl rfl ?_
  exact aw_vret rfl d_X9_init_53 ⟨Nat.le_of_ble_eq_true rfl, Nat.le_of_ble_eq_true rfl⟩ ⟨rfl, rfl⟩
set_option maxRecDepth 100000 in
noncomputable def CH_11 (h : Hp_) : Hp_ := h_rm (h_nw (h_rm (h_nw (h_rm (h_rm (h_nw h 31 0 160) 11 0 (some 31)) 11 4 (some 1000)) 32 0 150) 11 5 (some 32)) 33 0 164) 11 8 (some 33)
set_option maxRecDepth 100000 in
theorem k_X8_init_11 (d : Nat) (h : Hp_) (hs : h_sh h 11 = some (18, 10)) (hn : ∀ a, 31 ≤ a → a < 34 → h_sh h a = none) : Cv (m_X8_init (d + 1) 3 474) [.ref 11] h (fun h' => h' = CH_11 h) := by
  refine Ct.of (fun _ _ _ => trivial) pn_X8 (Nat.le_of_ble_eq_true rfl) ?_
  show AW (m_X8_init (d + 1) 3 474) 0 0 0 [(0, .ref 11)] [] h (kV _)
  refine aw_aload_n (i := 0) rfl d_X8_init_0 0 rfl ?_
  refine aw_objInit (rest := []) d_X8_init_1 tw_57 tw_33 tw_34 (show 1 ≤ d + 1 by omega) (show 0 + 12 ≤ 100 * (d + 1) by omega) ?_
  refine aw_aload_n (i := 0) rfl d_X8_init_4 0 rfl ?_
  refine aw_sipush (v := 160) d_X8_init_5 is_160 ?_
  refine aw_newa (t := 0) (atype := .int) 31 160 (by decide) rfl tw_51 (hn 31 (by decide) (by decide)) (by decide) xs0 (by decide) (by decide) (by decide) (Nat.le_of_ble_eq_true rfl) (Nat.le_of_ble_eq_true rfl) d_X8_init_8 ?_
  refine aw_putrF (k0 := 0) kc_8 (ss_n hs (by decide)) (Nat.le_of_ble_eq_true rfl) tw_59 d_X8_init_10 rfl rfl rfl rfl ?_
  have hs1 := ss_step (k := 31) (t := 0) (n := 160) (c' := 11) (s := 0) (r := some 31) hs (by decide)
  have hn2 := nn_step (k := 31) (t := 0) (n := 160) (c := 11) (s := 0) (r := some 31) hn
  refine aw_aload_n (i := 0) rfl d_X8_init_13 0 rfl ?_
  refine aw_ldcT (row := 0) (n := 0) (q := 1000) d_X8_init_14 rfl rfl ?_
  refine aw_putr (k0 := 4) kc_8 hs1 (Nat.le_of_ble_eq_true rfl) tw_64 d_X8_init_16 rfl rfl ?_
  have hs3 : h_sh (h_rm (h_rm (h_nw h 31 0 160) 11 0 (some 31)) 11 4 (some 1000)) 11 = some (18, 10) := hs1
  have hn4 : ∀ a, 32 ≤ a → a < 34 → h_sh (h_rm (h_rm (h_nw h 31 0 160) 11 0 (some 31)) 11 4 (some 1000)) a = none := hn2
  refine aw_aload_n (i := 0) rfl d_X8_init_19 0 rfl ?_
  refine aw_sipush (v := 150) d_X8_init_20 is_150 ?_
  refine aw_newa (t := 0) (atype := .int) 32 150 (by decide) rfl tw_51 (hn4 32 (by decide) (by decide)) (by decide) xs0 (by decide) (by decide) (by decide) (Nat.le_of_ble_eq_true rfl) (Nat.le_of_ble_eq_true rfl) d_X8_init_23 ?_
  refine aw_putrF (k0 := 5) kc_8 (ss_n hs3 (by decide)) (Nat.le_of_ble_eq_true rfl) tw_65 d_X8_init_25 rfl rfl rfl rfl ?_
  have hs5 := ss_step (k := 32) (t := 0) (n := 150) (c' := 11) (s := 5) (r := some 32) hs3 (by decide)
  have hn6 := nn_step (k := 32) (t := 0) (n := 150) (c := 11) (s := 5) (r := some 32) hn4
  refine aw_aload_n (i := 0) rfl d_X8_init_28 0 rfl ?_
  refine aw_sipush (v := 164) d_X8_init_29 is_164 ?_
  refine aw_newa (t := 0) (atype := .int) 33 164 (by decide) rfl tw_51 (hn6 33 (by decide) (by decide)) (by decide) xs0 (by decide) (by decide) (by decide) (Nat.le_of_ble_eq_true rfl) (Nat.le_of_ble_eq_true rfl) d_X8_init_32 ?_
  refine aw_putrF (k0 := 8) kc_8 (ss_n hs5 (by decide)) (Nat.le_of_ble_eq_true rfl) tw_71 d_X8_init_34 rfl rfl rfl rfl ?_
  have hs7 := ss_step (k := 33) (t := 0) (n := 164) (c' := 11) (s := 8) (r := some 33) hs5 (by decide)
  have hn8 := nn_step (k := 33) (t := 0) (n := 164) (c := 11) (s := 8) (r := some 33) hn6
  exact aw_vret rfl d_X8_init_37 ⟨Nat.le_of_ble_eq_true rfl, Nat.le_of_ble_eq_true rfl⟩ ⟨rfl, rfl⟩
set_option maxRecDepth 100000 in
noncomputable def CH_12 (h : Hp_) : Hp_ := h_rm (h_nw (h_rm (h_nw (h_rm (h_nw h 34 0 1800) 12 0 (some 34)) 35 0 12) 12 1 (some 35)) 36 0 12) 12 2 (some 36)
set_option maxRecDepth 100000 in
theorem k_X0_init_12 (d : Nat) (h : Hp_) (hs : h_sh h 12 = some (10, 4)) (hn : ∀ a, 34 ≤ a → a < 37 → h_sh h a = none) : Cv (m_X0_init (d + 1) 3 1824) [.ref 12] h (fun h' => h' = CH_12 h) := by
  refine Ct.of (fun _ _ _ => trivial) pn_X0 (Nat.le_of_ble_eq_true rfl) ?_
  show AW (m_X0_init (d + 1) 3 1824) 0 0 0 [(0, .ref 12)] [] h (kV _)
  refine aw_aload_n (i := 0) rfl d_X0_init_0 0 rfl ?_
  refine aw_objInit (rest := []) d_X0_init_1 tw_102 tw_33 tw_34 (show 1 ≤ d + 1 by omega) (show 0 + 12 ≤ 100 * (d + 1) by omega) ?_
  refine aw_aload_n (i := 0) rfl d_X0_init_4 0 rfl ?_
  refine aw_sipush (v := 1800) d_X0_init_5 is_1800 ?_
  refine aw_newa (t := 0) (atype := .int) 34 1800 (by decide) rfl tw_51 (hn 34 (by decide) (by decide)) (by decide) xs0 (by decide) (by decide) (by decide) (Nat.le_of_ble_eq_true rfl) (Nat.le_of_ble_eq_true rfl) d_X0_init_8 ?_
  refine aw_putrF (k0 := 0) kc_0 (ss_n hs (by decide)) (Nat.le_of_ble_eq_true rfl) tw_103 d_X0_init_10 rfl rfl rfl rfl ?_
  have hs1 := ss_step (k := 34) (t := 0) (n := 1800) (c' := 12) (s := 0) (r := some 34) hs (by decide)
  have hn2 := nn_step (k := 34) (t := 0) (n := 1800) (c := 12) (s := 0) (r := some 34) hn
  refine aw_aload_n (i := 0) rfl d_X0_init_13 0 rfl ?_
  refine aw_bipush (v := 12) d_X0_init_14 ib_12 ?_
  refine aw_newa (t := 0) (atype := .int) 35 12 (by decide) rfl tw_51 (hn2 35 (by decide) (by decide)) (by decide) xs0 (by decide) (by decide) (by decide) (Nat.le_of_ble_eq_true rfl) (Nat.le_of_ble_eq_true rfl) d_X0_init_16 ?_
  refine aw_putrF (k0 := 1) kc_0 (ss_n hs1 (by decide)) (Nat.le_of_ble_eq_true rfl) tw_104 d_X0_init_18 rfl rfl rfl rfl ?_
  have hs3 := ss_step (k := 35) (t := 0) (n := 12) (c' := 12) (s := 1) (r := some 35) hs1 (by decide)
  have hn4 := nn_step (k := 35) (t := 0) (n := 12) (c := 12) (s := 1) (r := some 35) hn2
  refine aw_aload_n (i := 0) rfl d_X0_init_21 0 rfl ?_
  refine aw_bipush (v := 12) d_X0_init_22 ib_12 ?_
  refine aw_newa (t := 0) (atype := .int) 36 12 (by decide) rfl tw_51 (hn4 36 (by decide) (by decide)) (by decide) xs0 (by decide) (by decide) (by decide) (Nat.le_of_ble_eq_true rfl) (Nat.le_of_ble_eq_true rfl) d_X0_init_24 ?_
  refine aw_putrF (k0 := 2) kc_0 (ss_n hs3 (by decide)) (Nat.le_of_ble_eq_true rfl) tw_105 d_X0_init_26 rfl rfl rfl rfl ?_
  have hs5 := ss_step (k := 36) (t := 0) (n := 12) (c' := 12) (s := 2) (r := some 36) hs3 (by decide)
  have hn6 := nn_step (k := 36) (t := 0) (n := 12) (c := 12) (s := 2) (r := some 36) hn4
  exact aw_vret rfl d_X0_init_29 ⟨Nat.le_of_ble_eq_true rfl, Nat.le_of_ble_eq_true rfl⟩ ⟨rfl, rfl⟩
set_option maxRecDepth 100000 in
noncomputable def CH_13 (h : Hp_) : Hp_ := h_rm (h_nw (h_rm (h_nw (h_rm (h_nw (h_rm (h_nw (h_rm (h_nw h 37 0 20) 13 0 (some 37)) 38 0 20) 13 1 (some 38)) 39 0 20) 13 2 (some 39)) 40 0 3280) 13 3 (some 40)) 41 0 164) 13 4 (some 41)
set_option maxRecDepth 100000 in
theorem k_X10_init_13 (d : Nat) (h : Hp_) (hs : h_sh h 13 = some (20, 6)) (hn : ∀ a, 37 ≤ a → a < 42 → h_sh h a = none) : Cv (m_X10_init (d + 1) 5 3504) [.ref 13] h (fun h' => h' = CH_13 h) := by
  refine Ct.of (fun _ _ _ => trivial) pn_X10 (Nat.le_of_ble_eq_true rfl) ?_
  show AW (m_X10_init (d + 1) 5 3504) 0 0 0 [(0, .ref 13)] [] h (kV _)
  refine aw_aload_n (i := 0) rfl d_X10_init_0 0 rfl ?_
  refine aw_objInit (rest := []) d_X10_init_1 tw_123 tw_33 tw_34 (show 1 ≤ d + 1 by omega) (show 0 + 12 ≤ 100 * (d + 1) by omega) ?_
  refine aw_aload_n (i := 0) rfl d_X10_init_4 0 rfl ?_
  refine aw_bipush (v := 20) d_X10_init_5 ib_20 ?_
  refine aw_newa (t := 0) (atype := .int) 37 20 (by decide) rfl tw_51 (hn 37 (by decide) (by decide)) (by decide) xs0 (by decide) (by decide) (by decide) (Nat.le_of_ble_eq_true rfl) (Nat.le_of_ble_eq_true rfl) d_X10_init_7 ?_
  refine aw_putrF (k0 := 0) kc_10 (ss_n hs (by decide)) (Nat.le_of_ble_eq_true rfl) tw_124 d_X10_init_9 rfl rfl rfl rfl ?_
  have hs1 := ss_step (k := 37) (t := 0) (n := 20) (c' := 13) (s := 0) (r := some 37) hs (by decide)
  have hn2 := nn_step (k := 37) (t := 0) (n := 20) (c := 13) (s := 0) (r := some 37) hn
  refine aw_aload_n (i := 0) rfl d_X10_init_12 0 rfl ?_
  refine aw_bipush (v := 20) d_X10_init_13 ib_20 ?_
  refine aw_newa (t := 0) (atype := .int) 38 20 (by decide) rfl tw_51 (hn2 38 (by decide) (by decide)) (by decide) xs0 (by decide) (by decide) (by decide) (Nat.le_of_ble_eq_true rfl) (Nat.le_of_ble_eq_true rfl) d_X10_init_15 ?_
  refine aw_putrF (k0 := 1) kc_10 (ss_n hs1 (by decide)) (Nat.le_of_ble_eq_true rfl) tw_125 d_X10_init_17 rfl rfl rfl rfl ?_
  have hs3 := ss_step (k := 38) (t := 0) (n := 20) (c' := 13) (s := 1) (r := some 38) hs1 (by decide)
  have hn4 := nn_step (k := 38) (t := 0) (n := 20) (c := 13) (s := 1) (r := some 38) hn2
  refine aw_aload_n (i := 0) rfl d_X10_init_20 0 rfl ?_
  refine aw_bipush (v := 20) d_X10_init_21 ib_20 ?_
  refine aw_newa (t := 0) (atype := .int) 39 20 (by decide) rfl tw_51 (hn4 39 (by decide) (by decide)) (by decide) xs0 (by decide) (by decide) (by decide) (Nat.le_of_ble_eq_true rfl) (Nat.le_of_ble_eq_true rfl) d_X10_init_23 ?_
  refine aw_putrF (k0 := 2) kc_10 (ss_n hs3 (by decide)) (Nat.le_of_ble_eq_true rfl) tw_126 d_X10_init_25 rfl rfl rfl rfl ?_
  have hs5 := ss_step (k := 39) (t := 0) (n := 20) (c' := 13) (s := 2) (r := some 39) hs3 (by decide)
  have hn6 := nn_step (k := 39) (t := 0) (n := 20) (c := 13) (s := 2) (r := some 39) hn4
  refine aw_aload_n (i := 0) rfl d_X10_init_28 0 rfl ?_
  refine aw_sipush (v := 3280) d_X10_init_29 is_3280 ?_
  refine aw_newa (t := 0) (atype := .int) 40 3280 (by decide) rfl tw_51 (hn6 40 (by decide) (by decide)) (by decide) xs0 (by decide) (by decide) (by decide) (Nat.le_of_ble_eq_true rfl) (Nat.le_of_ble_eq_true rfl) d_X10_init_32 ?_
  refine aw_putrF (k0 := 3) kc_10 (ss_n hs5 (by decide)) (Nat.le_of_ble_eq_true rfl) tw_127 d_X10_init_34 rfl rfl rfl rfl ?_
  have hs7 := ss_step (k := 40) (t := 0) (n := 3280) (c' := 13) (s := 3) (r := some 40) hs5 (by decide)
  have hn8 := nn_step (k := 40) (t := 0) (n := 3280) (c := 13) (s := 3) (r := some 40) hn6
  refine aw_aload_n (i := 0) rfl d_X10_init_37 0 rfl ?_
  refine aw_sipush (v := 164) d_X10_init_38 is_164 ?_
  refine aw_newa (t := 0) (atype := .int) 41 164 (by decide) rfl tw_51 (hn8 41 (by decide) (by decide)) (by decide) xs0 (by decide) (by decide) (by decide) (Nat.le_of_ble_eq_true rfl) (Nat.le_of_ble_eq_true rfl) d_X10_init_41 ?_
  refine aw_putrF (k0 := 4) kc_10 (ss_n hs7 (by decide)) (Nat.le_of_ble_eq_true rfl) tw_128 d_X10_init_43 rfl rfl rfl rfl ?_
  have hs9 := ss_step (k := 41) (t := 0) (n := 164) (c' := 13) (s := 4) (r := some 41) hs7 (by decide)
  have hn10 := nn_step (k := 41) (t := 0) (n := 164) (c := 13) (s := 4) (r := some 41) hn8
  exact aw_vret rfl d_X10_init_46 ⟨Nat.le_of_ble_eq_true rfl, Nat.le_of_ble_eq_true rfl⟩ ⟨rfl, rfl⟩
set_option maxRecDepth 100000 in
noncomputable def CH_14 (h : Hp_) : Hp_ := h_rm (h_nw (h_rm (h_nw (h_rm (h_nw (h_rm (h_nw (h_rm (h_nw h 42 0 20) 14 0 (some 42)) 43 0 20) 14 1 (some 43)) 44 0 20) 14 2 (some 44)) 45 0 3280) 14 3 (some 45)) 46 0 164) 14 4 (some 46)
set_option maxRecDepth 100000 in
theorem k_X10_init_14 (d : Nat) (h : Hp_) (hs : h_sh h 14 = some (20, 6)) (hn : ∀ a, 42 ≤ a → a < 47 → h_sh h a = none) : Cv (m_X10_init (d + 1) 5 3504) [.ref 14] h (fun h' => h' = CH_14 h) := by
  refine Ct.of (fun _ _ _ => trivial) pn_X10 (Nat.le_of_ble_eq_true rfl) ?_
  show AW (m_X10_init (d + 1) 5 3504) 0 0 0 [(0, .ref 14)] [] h (kV _)
  refine aw_aload_n (i := 0) rfl d_X10_init_0 0 rfl ?_
  refine aw_objInit (rest := []) d_X10_init_1 tw_123 tw_33 tw_34 (show 1 ≤ d + 1 by omega) (show 0 + 12 ≤ 100 * (d + 1) by omega) ?_
  refine aw_aload_n (i := 0) rfl d_X10_init_4 0 rfl ?_
  refine aw_bipush (v := 20) d_X10_init_5 ib_20 ?_
  refine aw_newa (t := 0) (atype := .int) 42 20 (by decide) rfl tw_51 (hn 42 (by decide) (by decide)) (by decide) xs0 (by decide) (by decide) (by decide) (Nat.le_of_ble_eq_true rfl) (Nat.le_of_ble_eq_true rfl) d_X10_init_7 ?_
  refine aw_putrF (k0 := 0) kc_10 (ss_n hs (by decide)) (Nat.le_of_ble_eq_true rfl) tw_124 d_X10_init_9 rfl rfl rfl rfl ?_
  have hs1 := ss_step (k := 42) (t := 0) (n := 20) (c' := 14) (s := 0) (r := some 42) hs (by decide)
  have hn2 := nn_step (k := 42) (t := 0) (n := 20) (c := 14) (s := 0) (r := some 42) hn
  refine aw_aload_n (i := 0) rfl d_X10_init_12 0 rfl ?_
  refine aw_bipush (v := 20) d_X10_init_13 ib_20 ?_
  refine aw_newa (t := 0) (atype := .int) 43 20 (by decide) rfl tw_51 (hn2 43 (by decide) (by decide)) (by decide) xs0 (by decide) (by decide) (by decide) (Nat.le_of_ble_eq_true rfl) (Nat.le_of_ble_eq_true rfl) d_X10_init_15 ?_
  refine aw_putrF (k0 := 1) kc_10 (ss_n hs1 (by decide)) (Nat.le_of_ble_eq_true rfl) tw_125 d_X10_init_17 rfl rfl rfl rfl ?_
  have hs3 := ss_step (k := 43) (t := 0) (n := 20) (c' := 14) (s := 1) (r := some 43) hs1 (by decide)
  have hn4 := nn_step (k := 43) (t := 0) (n := 20) (c := 14) (s := 1) (r := some 43) hn2
  refine aw_aload_n (i := 0) rfl d_X10_init_20 0 rfl ?_
  refine aw_bipush (v := 20) d_X10_init_21 ib_20 ?_
  refine aw_newa (t := 0) (atype := .int) 44 20 (by decide) rfl tw_51 (hn4 44 (by decide) (by decide)) (by decide) xs0 (by decide) (by decide) (by decide) (Nat.le_of_ble_eq_true rfl) (Nat.le_of_ble_eq_true rfl) d_X10_init_23 ?_
  refine aw_putrF (k0 := 2) kc_10 (ss_n hs3 (by decide)) (Nat.le_of_ble_eq_true rfl) tw_126 d_X10_init_25 rfl rfl rfl rfl ?_
  have hs5 := ss_step (k := 44) (t := 0) (n := 20) (c' := 14) (s := 2) (r := some 44) hs3 (by decide)
  have hn6 := nn_step (k := 44) (t := 0) (n := 20) (c := 14) (s := 2) (r := some 44) hn4
  refine aw_aload_n (i := 0) rfl d_X10_init_28 0 rfl ?_
  refine aw_sipush (v := 3280) d_X10_init_29 is_3280 ?_
  refine aw_newa (t := 0) (atype := .int) 45 3280 (by decide) rfl tw_51 (hn6 45 (by decide) (by decide)) (by decide) xs0 (by decide) (by decide) (by decide) (Nat.le_of_ble_eq_true rfl) (Nat.le_of_ble_eq_true rfl) d_X10_init_32 ?_
  refine aw_putrF (k0 := 3) kc_10 (ss_n hs5 (by decide)) (Nat.le_of_ble_eq_true rfl) tw_127 d_X10_init_34 rfl rfl rfl rfl ?_
  have hs7 := ss_step (k := 45) (t := 0) (n := 3280) (c' := 14) (s := 3) (r := some 45) hs5 (by decide)
  have hn8 := nn_step (k := 45) (t := 0) (n := 3280) (c := 14) (s := 3) (r := some 45) hn6
  refine aw_aload_n (i := 0) rfl d_X10_init_37 0 rfl ?_
  refine aw_sipush (v := 164) d_X10_init_38 is_164 ?_
  refine aw_newa (t := 0) (atype := .int) 46 164 (by decide) rfl tw_51 (hn8 46 (by decide) (by decide)) (by decide) xs0 (by decide) (by decide) (by decide) (Nat.le_of_ble_eq_true rfl) (Nat.le_of_ble_eq_true rfl) d_X10_init_41 ?_
  refine aw_putrF (k0 := 4) kc_10 (ss_n hs7 (by decide)) (Nat.le_of_ble_eq_true rfl) tw_128 d_X10_init_43 rfl rfl rfl rfl ?_
  have hs9 := ss_step (k := 46) (t := 0) (n := 164) (c' := 14) (s := 4) (r := some 46) hs7 (by decide)
  have hn10 := nn_step (k := 46) (t := 0) (n := 164) (c := 14) (s := 4) (r := some 46) hn8
  exact aw_vret rfl d_X10_init_46 ⟨Nat.le_of_ble_eq_true rfl, Nat.le_of_ble_eq_true rfl⟩ ⟨rfl, rfl⟩
set_option maxRecDepth 100000 in
noncomputable def CH_16 (h : Hp_) : Hp_ := h_rm (h_nw (h_rm (h_nw (h_rm (h_nw (h_rm (h_nw (h_rm (h_nw (h_rm (h_nw (h_rm (h_nw (h_rm (h_nw (h_rm (h_nw (h_rm (h_nw h 47 0 400) 16 0 (some 47)) 48 0 400) 16 1 (some 48)) 49 0 400) 16 2 (some 49)) 50 0 400) 16 3 (some 50)) 51 0 400) 16 4 (some 51)) 52 0 400) 16 5 (some 52)) 53 0 400) 16 6 (some 53)) 54 0 200) 16 8 (some 54)) 55 0 200) 16 9 (some 55)) 56 0 200) 16 10 (some 56)
set_option maxRecDepth 100000 in
theorem k_X7_init_16 (d : Nat) (h : Hp_) (hs : h_sh h 16 = some (17, 12)) (hn : ∀ a, 47 ≤ a → a < 57 → h_sh h a = none) : Cv (m_X7_init (d + 1) 10 3400) [.ref 16] h (fun h' => h' = CH_16 h) := by
  refine Ct.of (fun _ _ _ => trivial) pn_X7 (Nat.le_of_ble_eq_true rfl) ?_
  show AW (m_X7_init (d + 1) 10 3400) 0 0 0 [(0, .ref 16)] [] h (kV _)
  refine aw_aload_n (i := 0) rfl d_X7_init_0 0 rfl ?_
  refine aw_objInit (rest := []) d_X7_init_1 tw_151 tw_33 tw_34 (show 1 ≤ d + 1 by omega) (show 0 + 12 ≤ 100 * (d + 1) by omega) ?_
  refine aw_aload_n (i := 0) rfl d_X7_init_4 0 rfl ?_
  refine aw_sipush (v := 400) d_X7_init_5 is_400 ?_
  refine aw_newa (t := 0) (atype := .int) 47 400 (by decide) rfl tw_51 (hn 47 (by decide) (by decide)) (by decide) xs0 (by decide) (by decide) (by decide) (Nat.le_of_ble_eq_true rfl) (Nat.le_of_ble_eq_true rfl) d_X7_init_8 ?_
  refine aw_putrF (k0 := 0) kc_7 (ss_n hs (by decide)) (Nat.le_of_ble_eq_true rfl) tw_152 d_X7_init_10 rfl rfl rfl rfl ?_
  have hs1 := ss_step (k := 47) (t := 0) (n := 400) (c' := 16) (s := 0) (r := some 47) hs (by decide)
  have hn2 := nn_step (k := 47) (t := 0) (n := 400) (c := 16) (s := 0) (r := some 47) hn
  refine aw_aload_n (i := 0) rfl d_X7_init_13 0 rfl ?_
  refine aw_sipush (v := 400) d_X7_init_14 is_400 ?_
  refine aw_newa (t := 0) (atype := .int) 48 400 (by decide) rfl tw_51 (hn2 48 (by decide) (by decide)) (by decide) xs0 (by decide) (by decide) (by decide) (Nat.le_of_ble_eq_true rfl) (Nat.le_of_ble_eq_true rfl) d_X7_init_17 ?_
  refine aw_putrF (k0 := 1) kc_7 (ss_n hs1 (by decide)) (Nat.le_of_ble_eq_true rfl) tw_153 d_X7_init_19 rfl rfl rfl rfl ?_
  have hs3 := ss_step (k := 48) (t := 0) (n := 400) (c' := 16) (s := 1) (r := some 48) hs1 (by decide)
  have hn4 := nn_step (k := 48) (t := 0) (n := 400) (c := 16) (s := 1) (r := some 48) hn2
  refine aw_aload_n (i := 0) rfl d_X7_init_22 0 rfl ?_
  refine aw_sipush (v := 400) d_X7_init_23 is_400 ?_
  refine aw_newa (t := 0) (atype := .int) 49 400 (by decide) rfl tw_51 (hn4 49 (by decide) (by decide)) (by decide) xs0 (by decide) (by decide) (by decide) (Nat.le_of_ble_eq_true rfl) (Nat.le_of_ble_eq_true rfl) d_X7_init_26 ?_
  refine aw_putrF (k0 := 2) kc_7 (ss_n hs3 (by decide)) (Nat.le_of_ble_eq_true rfl) tw_154 d_X7_init_28 rfl rfl rfl rfl ?_
  have hs5 := ss_step (k := 49) (t := 0) (n := 400) (c' := 16) (s := 2) (r := some 49) hs3 (by decide)
  have hn6 := nn_step (k := 49) (t := 0) (n := 400) (c := 16) (s := 2) (r := some 49) hn4
  refine aw_aload_n (i := 0) rfl d_X7_init_31 0 rfl ?_
  refine aw_sipush (v := 400) d_X7_init_32 is_400 ?_
  refine aw_newa (t := 0) (atype := .int) 50 400 (by decide) rfl tw_51 (hn6 50 (by decide) (by decide)) (by decide) xs0 (by decide) (by decide) (by decide) (Nat.le_of_ble_eq_true rfl) (Nat.le_of_ble_eq_true rfl) d_X7_init_35 ?_
  refine aw_putrF (k0 := 3) kc_7 (ss_n hs5 (by decide)) (Nat.le_of_ble_eq_true rfl) tw_155 d_X7_init_37 rfl rfl rfl rfl ?_
  have hs7 := ss_step (k := 50) (t := 0) (n := 400) (c' := 16) (s := 3) (r := some 50) hs5 (by decide)
  have hn8 := nn_step (k := 50) (t := 0) (n := 400) (c := 16) (s := 3) (r := some 50) hn6
  refine aw_aload_n (i := 0) rfl d_X7_init_40 0 rfl ?_
  refine aw_sipush (v := 400) d_X7_init_41 is_400 ?_
  refine aw_newa (t := 0) (atype := .int) 51 400 (by decide) rfl tw_51 (hn8 51 (by decide) (by decide)) (by decide) xs0 (by decide) (by decide) (by decide) (Nat.le_of_ble_eq_true rfl) (Nat.le_of_ble_eq_true rfl) d_X7_init_44 ?_
  refine aw_putrF (k0 := 4) kc_7 (ss_n hs7 (by decide)) (Nat.le_of_ble_eq_true rfl) tw_156 d_X7_init_46 rfl rfl rfl rfl ?_
  have hs9 := ss_step (k := 51) (t := 0) (n := 400) (c' := 16) (s := 4) (r := some 51) hs7 (by decide)
  have hn10 := nn_step (k := 51) (t := 0) (n := 400) (c := 16) (s := 4) (r := some 51) hn8
  refine aw_aload_n (i := 0) rfl d_X7_init_49 0 rfl ?_
  refine aw_sipush (v := 400) d_X7_init_50 is_400 ?_
  refine aw_newa (t := 0) (atype := .int) 52 400 (by decide) rfl tw_51 (hn10 52 (by decide) (by decide)) (by decide) xs0 (by decide) (by decide) (by decide) (Nat.le_of_ble_eq_true rfl) (Nat.le_of_ble_eq_true rfl) d_X7_init_53 ?_
  refine aw_putrF (k0 := 5) kc_7 (ss_n hs9 (by decide)) (Nat.le_of_ble_eq_true rfl) tw_157 d_X7_init_55 rfl rfl rfl rfl ?_
  have hs11 := ss_step (k := 52) (t := 0) (n := 400) (c' := 16) (s := 5) (r := some 52) hs9 (by decide)
  have hn12 := nn_step (k := 52) (t := 0) (n := 400) (c := 16) (s := 5) (r := some 52) hn10
  refine aw_aload_n (i := 0) rfl d_X7_init_58 0 rfl ?_
  refine aw_sipush (v := 400) d_X7_init_59 is_400 ?_
  refine aw_newa (t := 0) (atype := .int) 53 400 (by decide) rfl tw_51 (hn12 53 (by decide) (by decide)) (by decide) xs0 (by decide) (by decide) (by decide) (Nat.le_of_ble_eq_true rfl) (Nat.le_of_ble_eq_true rfl) d_X7_init_62 ?_
  refine aw_putrF (k0 := 6) kc_7 (ss_n hs11 (by decide)) (Nat.le_of_ble_eq_true rfl) tw_158 d_X7_init_64 rfl rfl rfl rfl ?_
  have hs13 := ss_step (k := 53) (t := 0) (n := 400) (c' := 16) (s := 6) (r := some 53) hs11 (by decide)
  have hn14 := nn_step (k := 53) (t := 0) (n := 400) (c := 16) (s := 6) (r := some 53) hn12
  refine aw_aload_n (i := 0) rfl d_X7_init_67 0 rfl ?_
  refine aw_sipush (v := 200) d_X7_init_68 is_200 ?_
  refine aw_newa (t := 0) (atype := .int) 54 200 (by decide) rfl tw_51 (hn14 54 (by decide) (by decide)) (by decide) xs0 (by decide) (by decide) (by decide) (Nat.le_of_ble_eq_true rfl) (Nat.le_of_ble_eq_true rfl) d_X7_init_71 ?_
  refine aw_putrF (k0 := 8) kc_7 (ss_n hs13 (by decide)) (Nat.le_of_ble_eq_true rfl) tw_161 d_X7_init_73 rfl rfl rfl rfl ?_
  have hs15 := ss_step (k := 54) (t := 0) (n := 200) (c' := 16) (s := 8) (r := some 54) hs13 (by decide)
  have hn16 := nn_step (k := 54) (t := 0) (n := 200) (c := 16) (s := 8) (r := some 54) hn14
  refine aw_aload_n (i := 0) rfl d_X7_init_76 0 rfl ?_
  refine aw_sipush (v := 200) d_X7_init_77 is_200 ?_
  refine aw_newa (t := 0) (atype := .int) 55 200 (by decide) rfl tw_51 (hn16 55 (by decide) (by decide)) (by decide) xs0 (by decide) (by decide) (by decide) (Nat.le_of_ble_eq_true rfl) (Nat.le_of_ble_eq_true rfl) d_X7_init_80 ?_
  refine aw_putrF (k0 := 9) kc_7 (ss_n hs15 (by decide)) (Nat.le_of_ble_eq_true rfl) tw_162 d_X7_init_82 rfl rfl rfl rfl ?_
  have hs17 := ss_step (k := 55) (t := 0) (n := 200) (c' := 16) (s := 9) (r := some 55) hs15 (by decide)
  have hn18 := nn_step (k := 55) (t := 0) (n := 200) (c := 16) (s := 9) (r := some 55) hn16
  refine aw_aload_n (i := 0) rfl d_X7_init_85 0 rfl ?_
  refine aw_sipush (v := 200) d_X7_init_86 is_200 ?_
  refine aw_newa (t := 0) (atype := .int) 56 200 (by decide) rfl tw_51 (hn18 56 (by decide) (by decide)) (by decide) xs0 (by decide) (by decide) (by decide) (Nat.le_of_ble_eq_true rfl) (Nat.le_of_ble_eq_true rfl) d_X7_init_89 ?_
  refine aw_putrF (k0 := 10) kc_7 (ss_n hs17 (by decide)) (Nat.le_of_ble_eq_true rfl) tw_163 d_X7_init_91 rfl rfl rfl rfl ?_
  have hs19 := ss_step (k := 56) (t := 0) (n := 200) (c' := 16) (s := 10) (r := some 56) hs17 (by decide)
  have hn20 := nn_step (k := 56) (t := 0) (n := 200) (c := 16) (s := 10) (r := some 56) hn18
  exact aw_vret rfl d_X7_init_94 ⟨Nat.le_of_ble_eq_true rfl, Nat.le_of_ble_eq_true rfl⟩ ⟨rfl, rfl⟩
set_option maxRecDepth 100000 in
noncomputable def CH_17 (h : Hp_) : Hp_ := h_rm (h_nw (h_rm (h_nw (h_rm (h_nw (h_rm (h_nw (h_rm (h_nw (h_rm (h_nw (h_rm (h_nw (h_rm (h_nw (h_rm (h_nw (h_rm (h_nw (h_rm (h_nw (h_rm (h_nw (h_rm (h_nw (h_rm (h_nw h 57 0 80) 17 0 (some 57)) 58 0 80) 17 1 (some 58)) 59 0 80) 17 2 (some 59)) 60 0 80) 17 3 (some 60)) 61 0 80) 17 4 (some 61)) 62 0 80) 17 5 (some 62)) 63 1 80) 17 6 (some 63)) 64 0 300) 17 9 (some 64)) 65 0 300) 17 10 (some 65)) 66 0 300) 17 11 (some 66)) 67 0 300) 17 12 (some 67)) 68 0 300) 17 13 (some 68)) 69 0 300) 17 14 (some 69)) 70 0 2700) 17 15 (some 70)
set_option maxRecDepth 100000 in
theorem k_X4_init_17 (d : Nat) (h : Hp_) (hs : h_sh h 17 = some (14, 17)) (hn : ∀ a, 57 ≤ a → a < 71 → h_sh h a = none) : Cv (m_X4_init (d + 1) 14 5060) [.ref 17] h (fun h' => h' = CH_17 h) := by
  refine Ct.of (fun _ _ _ => trivial) pn_X4 (Nat.le_of_ble_eq_true rfl) ?_
  show AW (m_X4_init (d + 1) 14 5060) 0 0 0 [(0, .ref 17)] [] h (kV _)
  refine aw_aload_n (i := 0) rfl d_X4_init_0 0 rfl ?_
  refine aw_objInit (rest := []) d_X4_init_1 tw_195 tw_33 tw_34 (show 1 ≤ d + 1 by omega) (show 0 + 12 ≤ 100 * (d + 1) by omega) ?_
  refine aw_aload_n (i := 0) rfl d_X4_init_4 0 rfl ?_
  refine aw_bipush (v := 80) d_X4_init_5 ib_80 ?_
  refine aw_newa (t := 0) (atype := .int) 57 80 (by decide) rfl tw_51 (hn 57 (by decide) (by decide)) (by decide) xs0 (by decide) (by decide) (by decide) (Nat.le_of_ble_eq_true rfl) (Nat.le_of_ble_eq_true rfl) d_X4_init_7 ?_
  refine aw_putrF (k0 := 0) kc_4 (ss_n hs (by decide)) (Nat.le_of_ble_eq_true rfl) tw_196 d_X4_init_9 rfl rfl rfl rfl ?_
  have hs1 := ss_step (k := 57) (t := 0) (n := 80) (c' := 17) (s := 0) (r := some 57) hs (by decide)
  have hn2 := nn_step (k := 57) (t := 0) (n := 80) (c := 17) (s := 0) (r := some 57) hn
  refine aw_aload_n (i := 0) rfl d_X4_init_12 0 rfl ?_
  refine aw_bipush (v := 80) d_X4_init_13 ib_80 ?_
  refine aw_newa (t := 0) (atype := .int) 58 80 (by decide) rfl tw_51 (hn2 58 (by decide) (by decide)) (by decide) xs0 (by decide) (by decide) (by decide) (Nat.le_of_ble_eq_true rfl) (Nat.le_of_ble_eq_true rfl) d_X4_init_15 ?_
  refine aw_putrF (k0 := 1) kc_4 (ss_n hs1 (by decide)) (Nat.le_of_ble_eq_true rfl) tw_197 d_X4_init_17 rfl rfl rfl rfl ?_
  have hs3 := ss_step (k := 58) (t := 0) (n := 80) (c' := 17) (s := 1) (r := some 58) hs1 (by decide)
  have hn4 := nn_step (k := 58) (t := 0) (n := 80) (c := 17) (s := 1) (r := some 58) hn2
  refine aw_aload_n (i := 0) rfl d_X4_init_20 0 rfl ?_
  refine aw_bipush (v := 80) d_X4_init_21 ib_80 ?_
  refine aw_newa (t := 0) (atype := .int) 59 80 (by decide) rfl tw_51 (hn4 59 (by decide) (by decide)) (by decide) xs0 (by decide) (by decide) (by decide) (Nat.le_of_ble_eq_true rfl) (Nat.le_of_ble_eq_true rfl) d_X4_init_23 ?_
  refine aw_putrF (k0 := 2) kc_4 (ss_n hs3 (by decide)) (Nat.le_of_ble_eq_true rfl) tw_198 d_X4_init_25 rfl rfl rfl rfl ?_
  have hs5 := ss_step (k := 59) (t := 0) (n := 80) (c' := 17) (s := 2) (r := some 59) hs3 (by decide)
  have hn6 := nn_step (k := 59) (t := 0) (n := 80) (c := 17) (s := 2) (r := some 59) hn4
  refine aw_aload_n (i := 0) rfl d_X4_init_28 0 rfl ?_
  refine aw_bipush (v := 80) d_X4_init_29 ib_80 ?_
  refine aw_newa (t := 0) (atype := .int) 60 80 (by decide) rfl tw_51 (hn6 60 (by decide) (by decide)) (by decide) xs0 (by decide) (by decide) (by decide) (Nat.le_of_ble_eq_true rfl) (Nat.le_of_ble_eq_true rfl) d_X4_init_31 ?_
  refine aw_putrF (k0 := 3) kc_4 (ss_n hs5 (by decide)) (Nat.le_of_ble_eq_true rfl) tw_199 d_X4_init_33 rfl rfl rfl rfl ?_
  have hs7 := ss_step (k := 60) (t := 0) (n := 80) (c' := 17) (s := 3) (r := some 60) hs5 (by decide)
  have hn8 := nn_step (k := 60) (t := 0) (n := 80) (c := 17) (s := 3) (r := some 60) hn6
  refine aw_aload_n (i := 0) rfl d_X4_init_36 0 rfl ?_
  refine aw_bipush (v := 80) d_X4_init_37 ib_80 ?_
  refine aw_newa (t := 0) (atype := .int) 61 80 (by decide) rfl tw_51 (hn8 61 (by decide) (by decide)) (by decide) xs0 (by decide) (by decide) (by decide) (Nat.le_of_ble_eq_true rfl) (Nat.le_of_ble_eq_true rfl) d_X4_init_39 ?_
  refine aw_putrF (k0 := 4) kc_4 (ss_n hs7 (by decide)) (Nat.le_of_ble_eq_true rfl) tw_200 d_X4_init_41 rfl rfl rfl rfl ?_
  have hs9 := ss_step (k := 61) (t := 0) (n := 80) (c' := 17) (s := 4) (r := some 61) hs7 (by decide)
  have hn10 := nn_step (k := 61) (t := 0) (n := 80) (c := 17) (s := 4) (r := some 61) hn8
  refine aw_aload_n (i := 0) rfl d_X4_init_44 0 rfl ?_
  refine aw_bipush (v := 80) d_X4_init_45 ib_80 ?_
  refine aw_newa (t := 0) (atype := .int) 62 80 (by decide) rfl tw_51 (hn10 62 (by decide) (by decide)) (by decide) xs0 (by decide) (by decide) (by decide) (Nat.le_of_ble_eq_true rfl) (Nat.le_of_ble_eq_true rfl) d_X4_init_47 ?_
  refine aw_putrF (k0 := 5) kc_4 (ss_n hs9 (by decide)) (Nat.le_of_ble_eq_true rfl) tw_201 d_X4_init_49 rfl rfl rfl rfl ?_
  have hs11 := ss_step (k := 62) (t := 0) (n := 80) (c' := 17) (s := 5) (r := some 62) hs9 (by decide)
  have hn12 := nn_step (k := 62) (t := 0) (n := 80) (c := 17) (s := 5) (r := some 62) hn10
  refine aw_aload_n (i := 0) rfl d_X4_init_52 0 rfl ?_
  refine aw_bipush (v := 80) d_X4_init_53 ib_80 ?_
  refine aw_newa (t := 1) (atype := .boolean) 63 80 (by decide) rfl tw_252 (hn12 63 (by decide) (by decide)) (by decide) xs0 (by decide) (by decide) (by decide) (Nat.le_of_ble_eq_true rfl) (Nat.le_of_ble_eq_true rfl) d_X4_init_55 ?_
  refine aw_putrF (k0 := 6) kc_4 (ss_n hs11 (by decide)) (Nat.le_of_ble_eq_true rfl) tw_202 d_X4_init_57 rfl rfl rfl rfl ?_
  have hs13 := ss_step (k := 63) (t := 1) (n := 80) (c' := 17) (s := 6) (r := some 63) hs11 (by decide)
  have hn14 := nn_step (k := 63) (t := 1) (n := 80) (c := 17) (s := 6) (r := some 63) hn12
  refine aw_aload_n (i := 0) rfl d_X4_init_60 0 rfl ?_
  refine aw_sipush (v := 300) d_X4_init_61 is_300 ?_
  refine aw_newa (t := 0) (atype := .int) 64 300 (by decide) rfl tw_51 (hn14 64 (by decide) (by decide)) (by decide) xs0 (by decide) (by decide) (by decide) (Nat.le_of_ble_eq_true rfl) (Nat.le_of_ble_eq_true rfl) d_X4_init_64 ?_
  refine aw_putrF (k0 := 9) kc_4 (ss_n hs13 (by decide)) (Nat.le_of_ble_eq_true rfl) tw_207 d_X4_init_66 rfl rfl rfl rfl ?_
  have hs15 := ss_step (k := 64) (t := 0) (n := 300) (c' := 17) (s := 9) (r := some 64) hs13 (by decide)
  have hn16 := nn_step (k := 64) (t := 0) (n := 300) (c := 17) (s := 9) (r := some 64) hn14
  refine aw_aload_n (i := 0) rfl d_X4_init_69 0 rfl ?_
  refine aw_sipush (v := 300) d_X4_init_70 is_300 ?_
  refine aw_newa (t := 0) (atype := .int) 65 300 (by decide) rfl tw_51 (hn16 65 (by decide) (by decide)) (by decide) xs0 (by decide) (by decide) (by decide) (Nat.le_of_ble_eq_true rfl) (Nat.le_of_ble_eq_true rfl) d_X4_init_73 ?_
  refine aw_putrF (k0 := 10) kc_4 (ss_n hs15 (by decide)) (Nat.le_of_ble_eq_true rfl) tw_208 d_X4_init_75 rfl rfl rfl rfl ?_
  have hs17 := ss_step (k := 65) (t := 0) (n := 300) (c' := 17) (s := 10) (r := some 65) hs15 (by decide)
  have hn18 := nn_step (k := 65) (t := 0) (n := 300) (c := 17) (s := 10) (r := some 65) hn16
  refine aw_aload_n (i := 0) rfl d_X4_init_78 0 rfl ?_
  refine aw_sipush (v := 300) d_X4_init_79 is_300 ?_
  refine aw_newa (t := 0) (atype := .int) 66 300 (by decide) rfl tw_51 (hn18 66 (by decide) (by decide)) (by decide) xs0 (by decide) (by decide) (by decide) (Nat.le_of_ble_eq_true rfl) (Nat.le_of_ble_eq_true rfl) d_X4_init_82 ?_
  refine aw_putrF (k0 := 11) kc_4 (ss_n hs17 (by decide)) (Nat.le_of_ble_eq_true rfl) tw_209 d_X4_init_84 rfl rfl rfl rfl ?_
  have hs19 := ss_step (k := 66) (t := 0) (n := 300) (c' := 17) (s := 11) (r := some 66) hs17 (by decide)
  have hn20 := nn_step (k := 66) (t := 0) (n := 300) (c := 17) (s := 11) (r := some 66) hn18
  refine aw_aload_n (i := 0) rfl d_X4_init_87 0 rfl ?_
  refine aw_sipush (v := 300) d_X4_init_88 is_300 ?_
  refine aw_newa (t := 0) (atype := .int) 67 300 (by decide) rfl tw_51 (hn20 67 (by decide) (by decide)) (by decide) xs0 (by decide) (by decide) (by decide) (Nat.le_of_ble_eq_true rfl) (Nat.le_of_ble_eq_true rfl) d_X4_init_91 ?_
  refine aw_putrF (k0 := 12) kc_4 (ss_n hs19 (by decide)) (Nat.le_of_ble_eq_true rfl) tw_210 d_X4_init_93 rfl rfl rfl rfl ?_
  have hs21 := ss_step (k := 67) (t := 0) (n := 300) (c' := 17) (s := 12) (r := some 67) hs19 (by decide)
  have hn22 := nn_step (k := 67) (t := 0) (n := 300) (c := 17) (s := 12) (r := some 67) hn20
  refine aw_aload_n (i := 0) rfl d_X4_init_96 0 rfl ?_
  refine aw_sipush (v := 300) d_X4_init_97 is_300 ?_
  refine aw_newa (t := 0) (atype := .int) 68 300 (by decide) rfl tw_51 (hn22 68 (by decide) (by decide)) (by decide) xs0 (by decide) (by decide) (by decide) (Nat.le_of_ble_eq_true rfl) (Nat.le_of_ble_eq_true rfl) d_X4_init_100 ?_
  refine aw_putrF (k0 := 13) kc_4 (ss_n hs21 (by decide)) (Nat.le_of_ble_eq_true rfl) tw_211 d_X4_init_102 rfl rfl rfl rfl ?_
  have hs23 := ss_step (k := 68) (t := 0) (n := 300) (c' := 17) (s := 13) (r := some 68) hs21 (by decide)
  have hn24 := nn_step (k := 68) (t := 0) (n := 300) (c := 17) (s := 13) (r := some 68) hn22
  refine aw_aload_n (i := 0) rfl d_X4_init_105 0 rfl ?_
  refine aw_sipush (v := 300) d_X4_init_106 is_300 ?_
  refine aw_newa (t := 0) (atype := .int) 69 300 (by decide) rfl tw_51 (hn24 69 (by decide) (by decide)) (by decide) xs0 (by decide) (by decide) (by decide) (Nat.le_of_ble_eq_true rfl) (Nat.le_of_ble_eq_true rfl) d_X4_init_109 ?_
  refine aw_putrF (k0 := 14) kc_4 (ss_n hs23 (by decide)) (Nat.le_of_ble_eq_true rfl) tw_212 d_X4_init_111 rfl rfl rfl rfl ?_
  have hs25 := ss_step (k := 69) (t := 0) (n := 300) (c' := 17) (s := 14) (r := some 69) hs23 (by decide)
  have hn26 := nn_step (k := 69) (t := 0) (n := 300) (c := 17) (s := 14) (r := some 69) hn24
  refine aw_aload_n (i := 0) rfl d_X4_init_114 0 rfl ?_
  refine aw_sipush (v := 2700) d_X4_init_115 is_2700 ?_
  refine aw_newa (t := 0) (atype := .int) 70 2700 (by decide) rfl tw_51 (hn26 70 (by decide) (by decide)) (by decide) xs0 (by decide) (by decide) (by decide) (Nat.le_of_ble_eq_true rfl) (Nat.le_of_ble_eq_true rfl) d_X4_init_118 ?_
  refine aw_putrF (k0 := 15) kc_4 (ss_n hs25 (by decide)) (Nat.le_of_ble_eq_true rfl) tw_213 d_X4_init_120 rfl rfl rfl rfl ?_
  have hs27 := ss_step (k := 70) (t := 0) (n := 2700) (c' := 17) (s := 15) (r := some 70) hs25 (by decide)
  have hn28 := nn_step (k := 70) (t := 0) (n := 2700) (c := 17) (s := 15) (r := some 70) hn26
  exact aw_vret rfl d_X4_init_123 ⟨Nat.le_of_ble_eq_true rfl, Nat.le_of_ble_eq_true rfl⟩ ⟨rfl, rfl⟩
set_option maxRecDepth 100000 in
noncomputable def CH_18 (h : Hp_) : Hp_ := h_iw (h_iw (h_rm (h_nw (h_rm (h_nw (h_rm (h_nw (h_rm (h_nw (h_rm (h_nw (h_rm (h_nw (h_rm (h_nw (h_rm (h_nw (h_rm (h_nw (h_rm (h_nw (h_rm (h_nw (h_rm (h_nw (h_rm (h_nw (h_rm (h_nw h 71 0 30) 18 0 (some 71)) 72 0 30) 18 1 (some 72)) 73 0 30) 18 2 (some 73)) 74 0 10) 18 4 (some 74)) 75 0 8) 18 5 (some 75)) 76 0 200) 18 6 (some 76)) 77 0 200) 18 7 (some 77)) 78 0 16) 18 9 (some 78)) 79 0 180) 18 10 (some 79)) 80 0 180) 18 11 (some 80)) 81 0 180) 18 12 (some 81)) 82 0 8) 18 13 (some 82)) 83 0 8) 18 14 (some 83)) 84 0 30) 18 15 (some 84)) 75 (fl_ (fun _ => 1) (h_i (h_rm (h_nw (h_rm (h_nw (h_rm (h_nw (h_rm (h_nw (h_rm (h_nw (h_rm (h_nw (h_rm (h_nw (h_rm (h_nw (h_rm (h_nw (h_rm (h_nw (h_rm (h_nw (h_rm (h_nw (h_rm (h_nw (h_rm (h_nw h 71 0 30) 18 0 (some 71)) 72 0 30) 18 1 (some 72)) 73 0 30) 18 2 (some 73)) 74 0 10) 18 4 (some 74)) 75 0 8) 18 5 (some 75)) 76 0 200) 18 6 (some 76)) 77 0 200) 18 7 (some 77)) 78 0 16) 18 9 (some 78)) 79 0 180) 18 10 (some 79)) 80 0 180) 18 11 (some 80)) 81 0 180) 18 12 (some 81)) 82 0 8) 18 13 (some 82)) 83 0 8) 18 14 (some 83)) 84 0 30) 18 15 (some 84)) 75) 8)) 78 (fl_ (fun _ => (-1)) (h_i (h_iw (h_rm (h_nw (h_rm (h_nw (h_rm (h_nw (h_rm (h_nw (h_rm (h_nw (h_rm (h_nw (h_rm (h_nw (h_rm (h_nw (h_rm (h_nw (h_rm (h_nw (h_rm (h_nw (h_rm (h_nw (h_rm (h_nw (h_rm (h_nw h 71 0 30) 18 0 (some 71)) 72 0 30) 18 1 (some 72)) 73 0 30) 18 2 (some 73)) 74 0 10) 18 4 (some 74)) 75 0 8) 18 5 (some 75)) 76 0 200) 18 6 (some 76)) 77 0 200) 18 7 (some 77)) 78 0 16) 18 9 (some 78)) 79 0 180) 18 10 (some 79)) 80 0 180) 18 11 (some 80)) 81 0 180) 18 12 (some 81)) 82 0 8) 18 13 (some 82)) 83 0 8) 18 14 (some 83)) 84 0 30) 18 15 (some 84)) 75 (fl_ (fun _ => 1) (h_i (h_rm (h_nw (h_rm (h_nw (h_rm (h_nw (h_rm (h_nw (h_rm (h_nw (h_rm (h_nw (h_rm (h_nw (h_rm (h_nw (h_rm (h_nw (h_rm (h_nw (h_rm (h_nw (h_rm (h_nw (h_rm (h_nw (h_rm (h_nw h 71 0 30) 18 0 (some 71)) 72 0 30) 18 1 (some 72)) 73 0 30) 18 2 (some 73)) 74 0 10) 18 4 (some 74)) 75 0 8) 18 5 (some 75)) 76 0 200) 18 6 (some 76)) 77 0 200) 18 7 (some 77)) 78 0 16) 18 9 (some 78)) 79 0 180) 18 10 (some 79)) 80 0 180) 18 11 (some 80)) 81 0 180) 18 12 (some 81)) 82 0 8) 18 13 (some 82)) 83 0 8) 18 14 (some 83)) 84 0 30) 18 15 (some 84)) 75) 8)) 78) 16)
set_option maxRecDepth 100000 in
theorem k_X1_init_18 (d : Nat) (h : Hp_) (hs : h_sh h 18 = some (11, 16)) (hn : ∀ a, 71 ≤ a → a < 85 → h_sh h a = none) : Cv (m_X1_init (d + 1) 14 1110) [.ref 18] h (fun h' => h' = CH_18 h) := by
  refine Ct.of (fun _ _ _ => trivial) pn_X1 (Nat.le_of_ble_eq_true rfl) ?_
  show AW (m_X1_init (d + 1) 14 1110) 0 0 0 [(0, .ref 18)] [] h (kV _)
  refine aw_aload_n (i := 0) rfl d_X1_init_0 0 rfl ?_
  refine aw_objInit (rest := []) d_X1_init_1 tw_258 tw_33 tw_34 (show 1 ≤ d + 1 by omega) (show 0 + 12 ≤ 100 * (d + 1) by omega) ?_
  refine aw_aload_n (i := 0) rfl d_X1_init_4 0 rfl ?_
  refine aw_bipush (v := 30) d_X1_init_5 ib_30 ?_
  refine aw_newa (t := 0) (atype := .int) 71 30 (by decide) rfl tw_51 (hn 71 (by decide) (by decide)) (by decide) xs0 (by decide) (by decide) (by decide) (Nat.le_of_ble_eq_true rfl) (Nat.le_of_ble_eq_true rfl) d_X1_init_7 ?_
  refine aw_putrF (k0 := 0) kc_1 (ss_n hs (by decide)) (Nat.le_of_ble_eq_true rfl) tw_262 d_X1_init_9 rfl rfl rfl rfl ?_
  have hs1 := ss_step (k := 71) (t := 0) (n := 30) (c' := 18) (s := 0) (r := some 71) hs (by decide)
  have hn2 := nn_step (k := 71) (t := 0) (n := 30) (c := 18) (s := 0) (r := some 71) hn
  refine aw_aload_n (i := 0) rfl d_X1_init_12 0 rfl ?_
  refine aw_bipush (v := 30) d_X1_init_13 ib_30 ?_
  refine aw_newa (t := 0) (atype := .int) 72 30 (by decide) rfl tw_51 (hn2 72 (by decide) (by decide)) (by decide) xs0 (by decide) (by decide) (by decide) (Nat.le_of_ble_eq_true rfl) (Nat.le_of_ble_eq_true rfl) d_X1_init_15 ?_
  refine aw_putrF (k0 := 1) kc_1 (ss_n hs1 (by decide)) (Nat.le_of_ble_eq_true rfl) tw_263 d_X1_init_17 rfl rfl rfl rfl ?_
  have hs3 := ss_step (k := 72) (t := 0) (n := 30) (c' := 18) (s := 1) (r := some 72) hs1 (by decide)
  have hn4 := nn_step (k := 72) (t := 0) (n := 30) (c := 18) (s := 1) (r := some 72) hn2
  refine aw_aload_n (i := 0) rfl d_X1_init_20 0 rfl ?_
  refine aw_bipush (v := 30) d_X1_init_21 ib_30 ?_
  refine aw_newa (t := 0) (atype := .int) 73 30 (by decide) rfl tw_51 (hn4 73 (by decide) (by decide)) (by decide) xs0 (by decide) (by decide) (by decide) (Nat.le_of_ble_eq_true rfl) (Nat.le_of_ble_eq_true rfl) d_X1_init_23 ?_
  refine aw_putrF (k0 := 2) kc_1 (ss_n hs3 (by decide)) (Nat.le_of_ble_eq_true rfl) tw_264 d_X1_init_25 rfl rfl rfl rfl ?_
  have hs5 := ss_step (k := 73) (t := 0) (n := 30) (c' := 18) (s := 2) (r := some 73) hs3 (by decide)
  have hn6 := nn_step (k := 73) (t := 0) (n := 30) (c := 18) (s := 2) (r := some 73) hn4
  refine aw_aload_n (i := 0) rfl d_X1_init_28 0 rfl ?_
  refine aw_bipush (v := 10) d_X1_init_29 ib_10 ?_
  refine aw_newa (t := 0) (atype := .int) 74 10 (by decide) rfl tw_51 (hn6 74 (by decide) (by decide)) (by decide) xs0 (by decide) (by decide) (by decide) (Nat.le_of_ble_eq_true rfl) (Nat.le_of_ble_eq_true rfl) d_X1_init_31 ?_
  refine aw_putrF (k0 := 4) kc_1 (ss_n hs5 (by decide)) (Nat.le_of_ble_eq_true rfl) tw_267 d_X1_init_33 rfl rfl rfl rfl ?_
  have hs7 := ss_step (k := 74) (t := 0) (n := 10) (c' := 18) (s := 4) (r := some 74) hs5 (by decide)
  have hn8 := nn_step (k := 74) (t := 0) (n := 10) (c := 18) (s := 4) (r := some 74) hn6
  refine aw_aload_n (i := 0) rfl d_X1_init_36 0 rfl ?_
  refine aw_bipush (v := 8) d_X1_init_37 ib_8 ?_
  refine aw_newa (t := 0) (atype := .int) 75 8 (by decide) rfl tw_51 (hn8 75 (by decide) (by decide)) (by decide) xs0 (by decide) (by decide) (by decide) (Nat.le_of_ble_eq_true rfl) (Nat.le_of_ble_eq_true rfl) d_X1_init_39 ?_
  refine aw_putrF (k0 := 5) kc_1 (ss_n hs7 (by decide)) (Nat.le_of_ble_eq_true rfl) tw_269 d_X1_init_41 rfl rfl rfl rfl ?_
  have hs9 := ss_step (k := 75) (t := 0) (n := 8) (c' := 18) (s := 5) (r := some 75) hs7 (by decide)
  have hn10 := nn_step (k := 75) (t := 0) (n := 8) (c := 18) (s := 5) (r := some 75) hn8
  refine aw_aload_n (i := 0) rfl d_X1_init_44 0 rfl ?_
  refine aw_sipush (v := 200) d_X1_init_45 is_200 ?_
  refine aw_newa (t := 0) (atype := .int) 76 200 (by decide) rfl tw_51 (hn10 76 (by decide) (by decide)) (by decide) xs0 (by decide) (by decide) (by decide) (Nat.le_of_ble_eq_true rfl) (Nat.le_of_ble_eq_true rfl) d_X1_init_48 ?_
  refine aw_putrF (k0 := 6) kc_1 (ss_n hs9 (by decide)) (Nat.le_of_ble_eq_true rfl) tw_271 d_X1_init_50 rfl rfl rfl rfl ?_
  have hs11 := ss_step (k := 76) (t := 0) (n := 200) (c' := 18) (s := 6) (r := some 76) hs9 (by decide)
  have hn12 := nn_step (k := 76) (t := 0) (n := 200) (c := 18) (s := 6) (r := some 76) hn10
  refine aw_aload_n (i := 0) rfl d_X1_init_53 0 rfl ?_
  refine aw_sipush (v := 200) d_X1_init_54 is_200 ?_
  refine aw_newa (t := 0) (atype := .int) 77 200 (by decide) rfl tw_51 (hn12 77 (by decide) (by decide)) (by decide) xs0 (by decide) (by decide) (by decide) (Nat.le_of_ble_eq_true rfl) (Nat.le_of_ble_eq_true rfl) d_X1_init_57 ?_
  refine aw_putrF (k0 := 7) kc_1 (ss_n hs11 (by decide)) (Nat.le_of_ble_eq_true rfl) tw_272 d_X1_init_59 rfl rfl rfl rfl ?_
  have hs13 := ss_step (k := 77) (t := 0) (n := 200) (c' := 18) (s := 7) (r := some 77) hs11 (by decide)
  have hn14 := nn_step (k := 77) (t := 0) (n := 200) (c := 18) (s := 7) (r := some 77) hn12
  refine aw_aload_n (i := 0) rfl d_X1_init_62 0 rfl ?_
  refine aw_bipush (v := 16) d_X1_init_63 ib_16 ?_
  refine aw_newa (t := 0) (atype := .int) 78 16 (by decide) rfl tw_51 (hn14 78 (by decide) (by decide)) (by decide) xs0 (by decide) (by decide) (by decide) (Nat.le_of_ble_eq_true rfl) (Nat.le_of_ble_eq_true rfl) d_X1_init_65 ?_
  refine aw_putrF (k0 := 9) kc_1 (ss_n hs13 (by decide)) (Nat.le_of_ble_eq_true rfl) tw_275 d_X1_init_67 rfl rfl rfl rfl ?_
  have hs15 := ss_step (k := 78) (t := 0) (n := 16) (c' := 18) (s := 9) (r := some 78) hs13 (by decide)
  have hn16 := nn_step (k := 78) (t := 0) (n := 16) (c := 18) (s := 9) (r := some 78) hn14
  refine aw_aload_n (i := 0) rfl d_X1_init_70 0 rfl ?_
  refine aw_sipush (v := 180) d_X1_init_71 is_180 ?_
  refine aw_newa (t := 0) (atype := .int) 79 180 (by decide) rfl tw_51 (hn16 79 (by decide) (by decide)) (by decide) xs0 (by decide) (by decide) (by decide) (Nat.le_of_ble_eq_true rfl) (Nat.le_of_ble_eq_true rfl) d_X1_init_74 ?_
  refine aw_putrF (k0 := 10) kc_1 (ss_n hs15 (by decide)) (Nat.le_of_ble_eq_true rfl) tw_276 d_X1_init_76 rfl rfl rfl rfl ?_
  have hs17 := ss_step (k := 79) (t := 0) (n := 180) (c' := 18) (s := 10) (r := some 79) hs15 (by decide)
  have hn18 := nn_step (k := 79) (t := 0) (n := 180) (c := 18) (s := 10) (r := some 79) hn16
  refine aw_aload_n (i := 0) rfl d_X1_init_79 0 rfl ?_
  refine aw_sipush (v := 180) d_X1_init_80 is_180 ?_
  refine aw_newa (t := 0) (atype := .int) 80 180 (by decide) rfl tw_51 (hn18 80 (by decide) (by decide)) (by decide) xs0 (by decide) (by decide) (by decide) (Nat.le_of_ble_eq_true rfl) (Nat.le_of_ble_eq_true rfl) d_X1_init_83 ?_
  refine aw_putrF (k0 := 11) kc_1 (ss_n hs17 (by decide)) (Nat.le_of_ble_eq_true rfl) tw_277 d_X1_init_85 rfl rfl rfl rfl ?_
  have hs19 := ss_step (k := 80) (t := 0) (n := 180) (c' := 18) (s := 11) (r := some 80) hs17 (by decide)
  have hn20 := nn_step (k := 80) (t := 0) (n := 180) (c := 18) (s := 11) (r := some 80) hn18
  refine aw_aload_n (i := 0) rfl d_X1_init_88 0 rfl ?_
  refine aw_sipush (v := 180) d_X1_init_89 is_180 ?_
  refine aw_newa (t := 0) (atype := .int) 81 180 (by decide) rfl tw_51 (hn20 81 (by decide) (by decide)) (by decide) xs0 (by decide) (by decide) (by decide) (Nat.le_of_ble_eq_true rfl) (Nat.le_of_ble_eq_true rfl) d_X1_init_92 ?_
  refine aw_putrF (k0 := 12) kc_1 (ss_n hs19 (by decide)) (Nat.le_of_ble_eq_true rfl) tw_278 d_X1_init_94 rfl rfl rfl rfl ?_
  have hs21 := ss_step (k := 81) (t := 0) (n := 180) (c' := 18) (s := 12) (r := some 81) hs19 (by decide)
  have hn22 := nn_step (k := 81) (t := 0) (n := 180) (c := 18) (s := 12) (r := some 81) hn20
  refine aw_aload_n (i := 0) rfl d_X1_init_97 0 rfl ?_
  refine aw_bipush (v := 8) d_X1_init_98 ib_8 ?_
  refine aw_newa (t := 0) (atype := .int) 82 8 (by decide) rfl tw_51 (hn22 82 (by decide) (by decide)) (by decide) xs0 (by decide) (by decide) (by decide) (Nat.le_of_ble_eq_true rfl) (Nat.le_of_ble_eq_true rfl) d_X1_init_100 ?_
  refine aw_putrF (k0 := 13) kc_1 (ss_n hs21 (by decide)) (Nat.le_of_ble_eq_true rfl) tw_279 d_X1_init_102 rfl rfl rfl rfl ?_
  have hs23 := ss_step (k := 82) (t := 0) (n := 8) (c' := 18) (s := 13) (r := some 82) hs21 (by decide)
  have hn24 := nn_step (k := 82) (t := 0) (n := 8) (c := 18) (s := 13) (r := some 82) hn22
  refine aw_aload_n (i := 0) rfl d_X1_init_105 0 rfl ?_
  refine aw_bipush (v := 8) d_X1_init_106 ib_8 ?_
  refine aw_newa (t := 0) (atype := .int) 83 8 (by decide) rfl tw_51 (hn24 83 (by decide) (by decide)) (by decide) xs0 (by decide) (by decide) (by decide) (Nat.le_of_ble_eq_true rfl) (Nat.le_of_ble_eq_true rfl) d_X1_init_108 ?_
  refine aw_putrF (k0 := 14) kc_1 (ss_n hs23 (by decide)) (Nat.le_of_ble_eq_true rfl) tw_280 d_X1_init_110 rfl rfl rfl rfl ?_
  have hs25 := ss_step (k := 83) (t := 0) (n := 8) (c' := 18) (s := 14) (r := some 83) hs23 (by decide)
  have hn26 := nn_step (k := 83) (t := 0) (n := 8) (c := 18) (s := 14) (r := some 83) hn24
  refine aw_aload_n (i := 0) rfl d_X1_init_113 0 rfl ?_
  refine aw_bipush (v := 30) d_X1_init_114 ib_30 ?_
  refine aw_newa (t := 0) (atype := .int) 84 30 (by decide) rfl tw_51 (hn26 84 (by decide) (by decide)) (by decide) xs0 (by decide) (by decide) (by decide) (Nat.le_of_ble_eq_true rfl) (Nat.le_of_ble_eq_true rfl) d_X1_init_116 ?_
  refine aw_putrF (k0 := 15) kc_1 (ss_n hs25 (by decide)) (Nat.le_of_ble_eq_true rfl) tw_281 d_X1_init_118 rfl rfl rfl rfl ?_
  have hs27 := ss_step (k := 84) (t := 0) (n := 30) (c' := 18) (s := 15) (r := some 84) hs25 (by decide)
  have hn28 := nn_step (k := 84) (t := 0) (n := 30) (c := 18) (s := 15) (r := some 84) hn26
  refine aw_aload_n (i := 0) rfl d_X1_init_121 0 rfl ?_
  refine aw_getr (k0 := 5) (b := 75) kc_1 hs27 (Nat.le_of_ble_eq_true rfl) tw_269 d_X1_init_122 rfl rfl ?_
  refine aw_iconst (v := 1) d_X1_init_125 ic_1 ?_
  refine aw_Sv [.ref 75, .int 1] [] d_X1_init_126 (cS_J7_fill_53178 (d + 0) 0 0) tw_259 rfl (rr1 (by decide) (by decide) (Nat.le_of_ble_eq_true rfl) (Nat.le_of_ble_eq_true rfl)) (by decide) xs0 (s_J7_fill d _ 75 8 1 rfl (by decide)) (fun h9 kk => ?_)
  subst kk
  refine aw_aload_n (i := 0) rfl d_X1_init_129 0 rfl ?_
  refine aw_getr (k0 := 9) (b := 78) kc_1 hs27 (Nat.le_of_ble_eq_true rfl) tw_275 d_X1_init_130 rfl rfl ?_
  refine aw_iconst (v := (-1)) d_X1_init_133 ic_m1 ?_
  refine aw_Sv [.ref 78, .int (-1)] [] d_X1_init_134 (cS_J7_fill_53178 (d + 0) 0 0) tw_259 rfl (rr1 (by decide) (by decide) (Nat.le_of_ble_eq_true rfl) (Nat.le_of_ble_eq_true rfl)) (by decide) xs0 (s_J7_fill d _ 78 16 (-1) rfl (by decide)) (fun h9 kk => ?_)
  subst kk
  exact aw_vret rfl d_X1_init_137 ⟨Nat.le_of_ble_eq_true rfl, Nat.le_of_ble_eq_true rfl⟩ ⟨rfl, rfl⟩
set_option maxRecDepth 100000 in
noncomputable def CH_19 (h : Hp_) : Hp_ := h_rm (h_nw (h_rm (h_nw (h_rm (h_nw (h_rm (h_nw (h_rm (h_nw (h_im (h_im (h_rm (h_nw (h_rm (h_nw h 85 0 8) 19 0 (some 85)) 86 0 8) 19 1 (some 86)) 19 4 3) 19 5 1) 87 0 64) 19 6 (some 87)) 88 0 2304) 19 7 (some 88)) 89 1 2304) 19 8 (some 89)) 90 0 8) 19 9 (some 90)) 91 0 8) 19 10 (some 91)
set_option maxRecDepth 100000 in
theorem k_X3_init_19 (d : Nat) (h : Hp_) (hs : h_sh h 19 = some (13, 11)) (hn : ∀ a, 85 ≤ a → a < 92 → h_sh h a = none) : Cv (m_X3_init (d + 1) 7 4704) [.ref 19] h (fun h' => h' = CH_19 h) := by
  refine Ct.of (fun _ _ _ => trivial) pn_X3 (Nat.le_of_ble_eq_true rfl) ?_
  show AW (m_X3_init (d + 1) 7 4704) 0 0 0 [(0, .ref 19)] [] h (kV _)
  refine aw_aload_n (i := 0) rfl d_X3_init_0 0 rfl ?_
  refine aw_objInit (rest := []) d_X3_init_1 tw_320 tw_33 tw_34 (show 1 ≤ d + 1 by omega) (show 0 + 12 ≤ 100 * (d + 1) by omega) ?_
  refine aw_aload_n (i := 0) rfl d_X3_init_4 0 rfl ?_
  refine aw_bipush (v := 8) d_X3_init_5 ib_8 ?_
  refine aw_newa (t := 0) (atype := .int) 85 8 (by decide) rfl tw_51 (hn 85 (by decide) (by decide)) (by decide) xs0 (by decide) (by decide) (by decide) (Nat.le_of_ble_eq_true rfl) (Nat.le_of_ble_eq_true rfl) d_X3_init_7 ?_
  refine aw_putrF (k0 := 0) kc_3 (ss_n hs (by decide)) (Nat.le_of_ble_eq_true rfl) tw_321 d_X3_init_9 rfl rfl rfl rfl ?_
  have hs1 := ss_step (k := 85) (t := 0) (n := 8) (c' := 19) (s := 0) (r := some 85) hs (by decide)
  have hn2 := nn_step (k := 85) (t := 0) (n := 8) (c := 19) (s := 0) (r := some 85) hn
  refine aw_aload_n (i := 0) rfl d_X3_init_12 0 rfl ?_
  refine aw_bipush (v := 8) d_X3_init_13 ib_8 ?_
  refine aw_newa (t := 0) (atype := .int) 86 8 (by decide) rfl tw_51 (hn2 86 (by decide) (by decide)) (by decide) xs0 (by decide) (by decide) (by decide) (Nat.le_of_ble_eq_true rfl) (Nat.le_of_ble_eq_true rfl) d_X3_init_15 ?_
  refine aw_putrF (k0 := 1) kc_3 (ss_n hs1 (by decide)) (Nat.le_of_ble_eq_true rfl) tw_322 d_X3_init_17 rfl rfl rfl rfl ?_
  have hs3 := ss_step (k := 86) (t := 0) (n := 8) (c' := 19) (s := 1) (r := some 86) hs1 (by decide)
  have hn4 := nn_step (k := 86) (t := 0) (n := 8) (c := 19) (s := 1) (r := some 86) hn2
  refine aw_aload_n (i := 0) rfl d_X3_init_20 0 rfl ?_
  refine aw_iconst (v := 3) d_X3_init_21 ic_3 ?_
  refine aw_puti (k0 := 4) kc_3 hs3 (Nat.le_of_ble_eq_true rfl) tw_327 d_X3_init_22 rfl rfl nf_i ?_
  have hs5 := ss_im (a := 19) (k := 4) (x := 3) hs3
  have hn6 := nn_im (b := 19) (k := 4) (x := 3) hn4
  refine aw_aload_n (i := 0) rfl d_X3_init_25 0 rfl ?_
  refine aw_iconst (v := 1) d_X3_init_26 ic_1 ?_
  refine aw_puti (k0 := 5) kc_3 hs5 (Nat.le_of_ble_eq_true rfl) tw_328 d_X3_init_27 rfl rfl ⟨rfl, rfl⟩ ?_
  have hs7 := ss_im (a := 19) (k := 5) (x := 1) hs5
  have hn8 := nn_im (b := 19) (k := 5) (x := 1) hn6
  refine aw_aload_n (i := 0) rfl d_X3_init_30 0 rfl ?_
  refine aw_bipush (v := 64) d_X3_init_31 ib_64 ?_
  refine aw_newa (t := 0) (atype := .int) 87 64 (by decide) rfl tw_51 (hn8 87 (by decide) (by decide)) (by decide) xs0 (by decide) (by decide) (by decide) (Nat.le_of_ble_eq_true rfl) (Nat.le_of_ble_eq_true rfl) d_X3_init_33 ?_
  refine aw_putrF (k0 := 6) kc_3 (ss_n hs7 (by decide)) (Nat.le_of_ble_eq_true rfl) tw_329 d_X3_init_35 rfl rfl rfl rfl ?_
  have hs9 := ss_step (k := 87) (t := 0) (n := 64) (c' := 19) (s := 6) (r := some 87) hs7 (by decide)
  have hn10 := nn_step (k := 87) (t := 0) (n := 64) (c := 19) (s := 6) (r := some 87) hn8
  refine aw_aload_n (i := 0) rfl d_X3_init_38 0 rfl ?_
  refine aw_sipush (v := 2304) d_X3_init_39 is_2304 ?_
  refine aw_newa (t := 0) (atype := .int) 88 2304 (by decide) rfl tw_51 (hn10 88 (by decide) (by decide)) (by decide) xs0 (by decide) (by decide) (by decide) (Nat.le_of_ble_eq_true rfl) (Nat.le_of_ble_eq_true rfl) d_X3_init_42 ?_
  refine aw_putrF (k0 := 7) kc_3 (ss_n hs9 (by decide)) (Nat.le_of_ble_eq_true rfl) tw_330 d_X3_init_44 rfl rfl rfl rfl ?_
  have hs11 := ss_step (k := 88) (t := 0) (n := 2304) (c' := 19) (s := 7) (r := some 88) hs9 (by decide)
  have hn12 := nn_step (k := 88) (t := 0) (n := 2304) (c := 19) (s := 7) (r := some 88) hn10
  refine aw_aload_n (i := 0) rfl d_X3_init_47 0 rfl ?_
  refine aw_sipush (v := 2304) d_X3_init_48 is_2304 ?_
  refine aw_newa (t := 1) (atype := .boolean) 89 2304 (by decide) rfl tw_252 (hn12 89 (by decide) (by decide)) (by decide) xs0 (by decide) (by decide) (by decide) (Nat.le_of_ble_eq_true rfl) (Nat.le_of_ble_eq_true rfl) d_X3_init_51 ?_
  refine aw_putrF (k0 := 8) kc_3 (ss_n hs11 (by decide)) (Nat.le_of_ble_eq_true rfl) tw_331 d_X3_init_53 rfl rfl rfl rfl ?_
  have hs13 := ss_step (k := 89) (t := 1) (n := 2304) (c' := 19) (s := 8) (r := some 89) hs11 (by decide)
  have hn14 := nn_step (k := 89) (t := 1) (n := 2304) (c := 19) (s := 8) (r := some 89) hn12
  refine aw_aload_n (i := 0) rfl d_X3_init_56 0 rfl ?_
  refine aw_bipush (v := 8) d_X3_init_57 ib_8 ?_
  refine aw_newa (t := 0) (atype := .int) 90 8 (by decide) rfl tw_51 (hn14 90 (by decide) (by decide)) (by decide) xs0 (by decide) (by decide) (by decide) (Nat.le_of_ble_eq_true rfl) (Nat.le_of_ble_eq_true rfl) d_X3_init_59 ?_
  refine aw_putrF (k0 := 9) kc_3 (ss_n hs13 (by decide)) (Nat.le_of_ble_eq_true rfl) tw_332 d_X3_init_61 rfl rfl rfl rfl ?_
  have hs15 := ss_step (k := 90) (t := 0) (n := 8) (c' := 19) (s := 9) (r := some 90) hs13 (by decide)
  have hn16 := nn_step (k := 90) (t := 0) (n := 8) (c := 19) (s := 9) (r := some 90) hn14
  refine aw_aload_n (i := 0) rfl d_X3_init_64 0 rfl ?_
  refine aw_bipush (v := 8) d_X3_init_65 ib_8 ?_
  refine aw_newa (t := 0) (atype := .int) 91 8 (by decide) rfl tw_51 (hn16 91 (by decide) (by decide)) (by decide) xs0 (by decide) (by decide) (by decide) (Nat.le_of_ble_eq_true rfl) (Nat.le_of_ble_eq_true rfl) d_X3_init_67 ?_
  refine aw_putrF (k0 := 10) kc_3 (ss_n hs15 (by decide)) (Nat.le_of_ble_eq_true rfl) tw_333 d_X3_init_69 rfl rfl rfl rfl ?_
  have hs17 := ss_step (k := 91) (t := 0) (n := 8) (c' := 19) (s := 10) (r := some 91) hs15 (by decide)
  have hn18 := nn_step (k := 91) (t := 0) (n := 8) (c := 19) (s := 10) (r := some 91) hn16
  exact aw_vret rfl d_X3_init_72 ⟨Nat.le_of_ble_eq_true rfl, Nat.le_of_ble_eq_true rfl⟩ ⟨rfl, rfl⟩
set_option maxRecDepth 100000 in
noncomputable def CH_20 (h : Hp_) : Hp_ := h_rm (h_nw (h_rm (h_nw (h_rm (h_nw (h_rm (h_nw (h_rm (h_nw (h_rm (h_nw (h_rm (h_nw (h_rm (h_nw (h_rm (h_nw (h_rm (h_nw (h_rm (h_nw (h_rm (h_nw h 92 0 8) 20 0 (some 92)) 93 0 8) 20 1 (some 93)) 94 0 8) 20 2 (some 94)) 95 3 5) 20 4 (some 95)) 96 0 5) 20 5 (some 96)) 97 0 5) 20 6 (some 97)) 98 0 4) 20 13 (some 98)) 99 0 4) 20 14 (some 99)) 100 0 4) 20 15 (some 100)) 101 0 48) 20 17 (some 101)) 102 0 3328) 20 18 (some 102)) 103 0 12) 20 19 (some 103)
set_option maxRecDepth 100000 in
theorem k_X6_init_20 (d : Nat) (h : Hp_) (hs : h_sh h 20 = some (16, 20)) (hn : ∀ a, 92 ≤ a → a < 104 → h_sh h a = none) : Cv (m_X6_init (d + 1) 12 3439) [.ref 20] h (fun h' => h' = CH_20 h) := by
  refine Ct.of (fun _ _ _ => trivial) pn_X6 (Nat.le_of_ble_eq_true rfl) ?_
  show AW (m_X6_init (d + 1) 12 3439) 0 0 0 [(0, .ref 20)] [] h (kV _)
  refine aw_aload_n (i := 0) rfl d_X6_init_0 0 rfl ?_
  refine aw_objInit (rest := []) d_X6_init_1 tw_362 tw_33 tw_34 (show 1 ≤ d + 1 by omega) (show 0 + 12 ≤ 100 * (d + 1) by omega) ?_
  refine aw_aload_n (i := 0) rfl d_X6_init_4 0 rfl ?_
  refine aw_bipush (v := 8) d_X6_init_5 ib_8 ?_
  refine aw_newa (t := 0) (atype := .int) 92 8 (by decide) rfl tw_51 (hn 92 (by decide) (by decide)) (by decide) xs0 (by decide) (by decide) (by decide) (Nat.le_of_ble_eq_true rfl) (Nat.le_of_ble_eq_true rfl) d_X6_init_7 ?_
  refine aw_putrF (k0 := 0) kc_6 (ss_n hs (by decide)) (Nat.le_of_ble_eq_true rfl) tw_363 d_X6_init_9 rfl rfl rfl rfl ?_
  have hs1 := ss_step (k := 92) (t := 0) (n := 8) (c' := 20) (s := 0) (r := some 92) hs (by decide)
  have hn2 := nn_step (k := 92) (t := 0) (n := 8) (c := 20) (s := 0) (r := some 92) hn
  refine aw_aload_n (i := 0) rfl d_X6_init_12 0 rfl ?_
  refine aw_bipush (v := 8) d_X6_init_13 ib_8 ?_
  refine aw_newa (t := 0) (atype := .int) 93 8 (by decide) rfl tw_51 (hn2 93 (by decide) (by decide)) (by decide) xs0 (by decide) (by decide) (by decide) (Nat.le_of_ble_eq_true rfl) (Nat.le_of_ble_eq_true rfl) d_X6_init_15 ?_
  refine aw_putrF (k0 := 1) kc_6 (ss_n hs1 (by decide)) (Nat.le_of_ble_eq_true rfl) tw_364 d_X6_init_17 rfl rfl rfl rfl ?_
  have hs3 := ss_step (k := 93) (t := 0) (n := 8) (c' := 20) (s := 1) (r := some 93) hs1 (by decide)
  have hn4 := nn_step (k := 93) (t := 0) (n := 8) (c := 20) (s := 1) (r := some 93) hn2
  refine aw_aload_n (i := 0) rfl d_X6_init_20 0 rfl ?_
  refine aw_bipush (v := 8) d_X6_init_21 ib_8 ?_
  refine aw_newa (t := 0) (atype := .int) 94 8 (by decide) rfl tw_51 (hn4 94 (by decide) (by decide)) (by decide) xs0 (by decide) (by decide) (by decide) (Nat.le_of_ble_eq_true rfl) (Nat.le_of_ble_eq_true rfl) d_X6_init_23 ?_
  refine aw_putrF (k0 := 2) kc_6 (ss_n hs3 (by decide)) (Nat.le_of_ble_eq_true rfl) tw_365 d_X6_init_25 rfl rfl rfl rfl ?_
  have hs5 := ss_step (k := 94) (t := 0) (n := 8) (c' := 20) (s := 2) (r := some 94) hs3 (by decide)
  have hn6 := nn_step (k := 94) (t := 0) (n := 8) (c := 20) (s := 2) (r := some 94) hn4
  refine aw_aload_n (i := 0) rfl d_X6_init_28 0 rfl ?_
  refine aw_iconst (v := 5) d_X6_init_29 ic_5 ?_
  refine aw_newa (t := 3) (atype := .long) 95 5 (by decide) rfl tw_426 (hn6 95 (by decide) (by decide)) (by decide) xs0 (by decide) (by decide) (by decide) (Nat.le_of_ble_eq_true rfl) (Nat.le_of_ble_eq_true rfl) d_X6_init_30 ?_
  refine aw_putrF (k0 := 4) kc_6 (ss_n hs5 (by decide)) (Nat.le_of_ble_eq_true rfl) tw_368 d_X6_init_32 rfl rfl rfl rfl ?_
  have hs7 := ss_step (k := 95) (t := 3) (n := 5) (c' := 20) (s := 4) (r := some 95) hs5 (by decide)
  have hn8 := nn_step (k := 95) (t := 3) (n := 5) (c := 20) (s := 4) (r := some 95) hn6
  refine aw_aload_n (i := 0) rfl d_X6_init_35 0 rfl ?_
  refine aw_iconst (v := 5) d_X6_init_36 ic_5 ?_
  refine aw_newa (t := 0) (atype := .int) 96 5 (by decide) rfl tw_51 (hn8 96 (by decide) (by decide)) (by decide) xs0 (by decide) (by decide) (by decide) (Nat.le_of_ble_eq_true rfl) (Nat.le_of_ble_eq_true rfl) d_X6_init_37 ?_
  refine aw_putrF (k0 := 5) kc_6 (ss_n hs7 (by decide)) (Nat.le_of_ble_eq_true rfl) tw_369 d_X6_init_39 rfl rfl rfl rfl ?_
  have hs9 := ss_step (k := 96) (t := 0) (n := 5) (c' := 20) (s := 5) (r := some 96) hs7 (by decide)
  have hn10 := nn_step (k := 96) (t := 0) (n := 5) (c := 20) (s := 5) (r := some 96) hn8
  refine aw_aload_n (i := 0) rfl d_X6_init_42 0 rfl ?_
  refine aw_iconst (v := 5) d_X6_init_43 ic_5 ?_
  refine aw_newa (t := 0) (atype := .int) 97 5 (by decide) rfl tw_51 (hn10 97 (by decide) (by decide)) (by decide) xs0 (by decide) (by decide) (by decide) (Nat.le_of_ble_eq_true rfl) (Nat.le_of_ble_eq_true rfl) d_X6_init_44 ?_
  refine aw_putrF (k0 := 6) kc_6 (ss_n hs9 (by decide)) (Nat.le_of_ble_eq_true rfl) tw_370 d_X6_init_46 rfl rfl rfl rfl ?_
  have hs11 := ss_step (k := 97) (t := 0) (n := 5) (c' := 20) (s := 6) (r := some 97) hs9 (by decide)
  have hn12 := nn_step (k := 97) (t := 0) (n := 5) (c := 20) (s := 6) (r := some 97) hn10
  refine aw_aload_n (i := 0) rfl d_X6_init_49 0 rfl ?_
  refine aw_iconst (v := 4) d_X6_init_50 ic_4 ?_
  refine aw_newa (t := 0) (atype := .int) 98 4 (by decide) rfl tw_51 (hn12 98 (by decide) (by decide)) (by decide) xs0 (by decide) (by decide) (by decide) (Nat.le_of_ble_eq_true rfl) (Nat.le_of_ble_eq_true rfl) d_X6_init_51 ?_
  refine aw_putrF (k0 := 13) kc_6 (ss_n hs11 (by decide)) (Nat.le_of_ble_eq_true rfl) tw_377 d_X6_init_53 rfl rfl rfl rfl ?_
  have hs13 := ss_step (k := 98) (t := 0) (n := 4) (c' := 20) (s := 13) (r := some 98) hs11 (by decide)
  have hn14 := nn_step (k := 98) (t := 0) (n := 4) (c := 20) (s := 13) (r := some 98) hn12
  refine aw_aload_n (i := 0) rfl d_X6_init_56 0 rfl ?_
  refine aw_iconst (v := 4) d_X6_init_57 ic_4 ?_
  refine aw_newa (t := 0) (atype := .int) 99 4 (by decide) rfl tw_51 (hn14 99 (by decide) (by decide)) (by decide) xs0 (by decide) (by decide) (by decide) (Nat.le_of_ble_eq_true rfl) (Nat.le_of_ble_eq_true rfl) d_X6_init_58 ?_
  refine aw_putrF (k0 := 14) kc_6 (ss_n hs13 (by decide)) (Nat.le_of_ble_eq_true rfl) tw_378 d_X6_init_60 rfl rfl rfl rfl ?_
  have hs15 := ss_step (k := 99) (t := 0) (n := 4) (c' := 20) (s := 14) (r := some 99) hs13 (by decide)
  have hn16 := nn_step (k := 99) (t := 0) (n := 4) (c := 20) (s := 14) (r := some 99) hn14
  refine aw_aload_n (i := 0) rfl d_X6_init_63 0 rfl ?_
  refine aw_iconst (v := 4) d_X6_init_64 ic_4 ?_
  refine aw_newa (t := 0) (atype := .int) 100 4 (by decide) rfl tw_51 (hn16 100 (by decide) (by decide)) (by decide) xs0 (by decide) (by decide) (by decide) (Nat.le_of_ble_eq_true rfl) (Nat.le_of_ble_eq_true rfl) d_X6_init_65 ?_
  refine aw_putrF (k0 := 15) kc_6 (ss_n hs15 (by decide)) (Nat.le_of_ble_eq_true rfl) tw_379 d_X6_init_67 rfl rfl rfl rfl ?_
  have hs17 := ss_step (k := 100) (t := 0) (n := 4) (c' := 20) (s := 15) (r := some 100) hs15 (by decide)
  have hn18 := nn_step (k := 100) (t := 0) (n := 4) (c := 20) (s := 15) (r := some 100) hn16
  refine aw_aload_n (i := 0) rfl d_X6_init_70 0 rfl ?_
  refine aw_bipush (v := 48) d_X6_init_71 ib_48 ?_
  refine aw_newa (t := 0) (atype := .int) 101 48 (by decide) rfl tw_51 (hn18 101 (by decide) (by decide)) (by decide) xs0 (by decide) (by decide) (by decide) (Nat.le_of_ble_eq_true rfl) (Nat.le_of_ble_eq_true rfl) d_X6_init_73 ?_
  refine aw_putrF (k0 := 17) kc_6 (ss_n hs17 (by decide)) (Nat.le_of_ble_eq_true rfl) tw_382 d_X6_init_75 rfl rfl rfl rfl ?_
  have hs19 := ss_step (k := 101) (t := 0) (n := 48) (c' := 20) (s := 17) (r := some 101) hs17 (by decide)
  have hn20 := nn_step (k := 101) (t := 0) (n := 48) (c := 20) (s := 17) (r := some 101) hn18
  refine aw_aload_n (i := 0) rfl d_X6_init_78 0 rfl ?_
  refine aw_sipush (v := 3328) d_X6_init_79 is_3328 ?_
  refine aw_newa (t := 0) (atype := .int) 102 3328 (by decide) rfl tw_51 (hn20 102 (by decide) (by decide)) (by decide) xs0 (by decide) (by decide) (by decide) (Nat.le_of_ble_eq_true rfl) (Nat.le_of_ble_eq_true rfl) d_X6_init_82 ?_
  refine aw_putrF (k0 := 18) kc_6 (ss_n hs19 (by decide)) (Nat.le_of_ble_eq_true rfl) tw_383 d_X6_init_84 rfl rfl rfl rfl ?_
  have hs21 := ss_step (k := 102) (t := 0) (n := 3328) (c' := 20) (s := 18) (r := some 102) hs19 (by decide)
  have hn22 := nn_step (k := 102) (t := 0) (n := 3328) (c := 20) (s := 18) (r := some 102) hn20
  refine aw_aload_n (i := 0) rfl d_X6_init_87 0 rfl ?_
  refine aw_bipush (v := 12) d_X6_init_88 ib_12 ?_
  refine aw_newa (t := 0) (atype := .int) 103 12 (by decide) rfl tw_51 (hn22 103 (by decide) (by decide)) (by decide) xs0 (by decide) (by decide) (by decide) (Nat.le_of_ble_eq_true rfl) (Nat.le_of_ble_eq_true rfl) d_X6_init_90 ?_
  refine aw_putrF (k0 := 19) kc_6 (ss_n hs21 (by decide)) (Nat.le_of_ble_eq_true rfl) tw_384 d_X6_init_92 rfl rfl rfl rfl ?_
  have hs23 := ss_step (k := 103) (t := 0) (n := 12) (c' := 20) (s := 19) (r := some 103) hs21 (by decide)
  have hn24 := nn_step (k := 103) (t := 0) (n := 12) (c := 20) (s := 19) (r := some 103) hn22
  exact aw_vret rfl d_X6_init_95 ⟨Nat.le_of_ble_eq_true rfl, Nat.le_of_ble_eq_true rfl⟩ ⟨rfl, rfl⟩
set_option maxRecDepth 100000 in
noncomputable def CH_21 (h : Hp_) : Hp_ := h_iw (h_im (h_rm (h_nw (h_rm (h_nw (h_rm (h_nw (h_rm (h_nw (h_rm (h_nw (h_rm (h_nw (h_rm (h_nw (h_rm (h_nw (h_rm (h_nw (h_rm (h_nw (h_rm (h_nw (h_rm (h_nw h 104 0 40) 21 0 (some 104)) 105 0 40) 21 1 (some 105)) 106 0 40) 21 2 (some 106)) 107 0 40) 21 3 (some 107)) 108 0 6) 21 5 (some 108)) 109 0 168) 21 6 (some 109)) 110 0 168) 21 7 (some 110)) 111 0 600) 21 8 (some 111)) 112 0 600) 21 9 (some 112)) 113 0 600) 21 10 (some 113)) 114 0 600) 21 11 (some 114)) 115 0 48) 21 14 (some 115)) 21 15 3) 115 (fl_ (fun _ => (-1)) (h_i (h_im (h_rm (h_nw (h_rm (h_nw (h_rm (h_nw (h_rm (h_nw (h_rm (h_nw (h_rm (h_nw (h_rm (h_nw (h_rm (h_nw (h_rm (h_nw (h_rm (h_nw (h_rm (h_nw (h_rm (h_nw h 104 0 40) 21 0 (some 104)) 105 0 40) 21 1 (some 105)) 106 0 40) 21 2 (some 106)) 107 0 40) 21 3 (some 107)) 108 0 6) 21 5 (some 108)) 109 0 168) 21 6 (some 109)) 110 0 168) 21 7 (some 110)) 111 0 600) 21 8 (some 111)) 112 0 600) 21 9 (some 112)) 113 0 600) 21 10 (some 113)) 114 0 600) 21 11 (some 114)) 115 0 48) 21 14 (some 115)) 21 15 3) 115) 48)
set_option maxRecDepth 100000 in
theorem k_X5_init_21 (d : Nat) (h : Hp_) (hs : h_sh h 21 = some (15, 16)) (hn : ∀ a, 104 ≤ a → a < 116 → h_sh h a = none) : Cv (m_X5_init (d + 1) 12 2950) [.ref 21] h (fun h' => h' = CH_21 h) := by
  refine Ct.of (fun _ _ _ => trivial) pn_X5 (Nat.le_of_ble_eq_true rfl) ?_
  show AW (m_X5_init (d + 1) 12 2950) 0 0 0 [(0, .ref 21)] [] h (kV _)
  refine aw_aload_n (i := 0) rfl d_X5_init_0 0 rfl ?_
  refine aw_objInit (rest := []) d_X5_init_1 tw_432 tw_33 tw_34 (show 1 ≤ d + 1 by omega) (show 0 + 12 ≤ 100 * (d + 1) by omega) ?_
  refine aw_aload_n (i := 0) rfl d_X5_init_4 0 rfl ?_
  refine aw_bipush (v := 40) d_X5_init_5 ib_40 ?_
  refine aw_newa (t := 0) (atype := .int) 104 40 (by decide) rfl tw_51 (hn 104 (by decide) (by decide)) (by decide) xs0 (by decide) (by decide) (by decide) (Nat.le_of_ble_eq_true rfl) (Nat.le_of_ble_eq_true rfl) d_X5_init_7 ?_
  refine aw_putrF (k0 := 0) kc_5 (ss_n hs (by decide)) (Nat.le_of_ble_eq_true rfl) tw_434 d_X5_init_9 rfl rfl rfl rfl ?_
  have hs1 := ss_step (k := 104) (t := 0) (n := 40) (c' := 21) (s := 0) (r := some 104) hs (by decide)
  have hn2 := nn_step (k := 104) (t := 0) (n := 40) (c := 21) (s := 0) (r := some 104) hn
  refine aw_aload_n (i := 0) rfl d_X5_init_12 0 rfl ?_
  refine aw_bipush (v := 40) d_X5_init_13 ib_40 ?_
  refine aw_newa (t := 0) (atype := .int) 105 40 (by decide) rfl tw_51 (hn2 105 (by decide) (by decide)) (by decide) xs0 (by decide) (by decide) (by decide) (Nat.le_of_ble_eq_true rfl) (Nat.le_of_ble_eq_true rfl) d_X5_init_15 ?_
  refine aw_putrF (k0 := 1) kc_5 (ss_n hs1 (by decide)) (Nat.le_of_ble_eq_true rfl) tw_435 d_X5_init_17 rfl rfl rfl rfl ?_
  have hs3 := ss_step (k := 105) (t := 0) (n := 40) (c' := 21) (s := 1) (r := some 105) hs1 (by decide)
  have hn4 := nn_step (k := 105) (t := 0) (n := 40) (c := 21) (s := 1) (r := some 105) hn2
  refine aw_aload_n (i := 0) rfl d_X5_init_20 0 rfl ?_
  refine aw_bipush (v := 40) d_X5_init_21 ib_40 ?_
  refine aw_newa (t := 0) (atype := .int) 106 40 (by decide) rfl tw_51 (hn4 106 (by decide) (by decide)) (by decide) xs0 (by decide) (by decide) (by decide) (Nat.le_of_ble_eq_true rfl) (Nat.le_of_ble_eq_true rfl) d_X5_init_23 ?_
  refine aw_putrF (k0 := 2) kc_5 (ss_n hs3 (by decide)) (Nat.le_of_ble_eq_true rfl) tw_436 d_X5_init_25 rfl rfl rfl rfl ?_
  have hs5 := ss_step (k := 106) (t := 0) (n := 40) (c' := 21) (s := 2) (r := some 106) hs3 (by decide)
  have hn6 := nn_step (k := 106) (t := 0) (n := 40) (c := 21) (s := 2) (r := some 106) hn4
  refine aw_aload_n (i := 0) rfl d_X5_init_28 0 rfl ?_
  refine aw_bipush (v := 40) d_X5_init_29 ib_40 ?_
  refine aw_newa (t := 0) (atype := .int) 107 40 (by decide) rfl tw_51 (hn6 107 (by decide) (by decide)) (by decide) xs0 (by decide) (by decide) (by decide) (Nat.le_of_ble_eq_true rfl) (Nat.le_of_ble_eq_true rfl) d_X5_init_31 ?_
  refine aw_putrF (k0 := 3) kc_5 (ss_n hs5 (by decide)) (Nat.le_of_ble_eq_true rfl) tw_437 d_X5_init_33 rfl rfl rfl rfl ?_
  have hs7 := ss_step (k := 107) (t := 0) (n := 40) (c' := 21) (s := 3) (r := some 107) hs5 (by decide)
  have hn8 := nn_step (k := 107) (t := 0) (n := 40) (c := 21) (s := 3) (r := some 107) hn6
  refine aw_aload_n (i := 0) rfl d_X5_init_36 0 rfl ?_
  refine aw_bipush (v := 6) d_X5_init_37 ib_6 ?_
  refine aw_newa (t := 0) (atype := .int) 108 6 (by decide) rfl tw_51 (hn8 108 (by decide) (by decide)) (by decide) xs0 (by decide) (by decide) (by decide) (Nat.le_of_ble_eq_true rfl) (Nat.le_of_ble_eq_true rfl) d_X5_init_39 ?_
  refine aw_putrF (k0 := 5) kc_5 (ss_n hs7 (by decide)) (Nat.le_of_ble_eq_true rfl) tw_439 d_X5_init_41 rfl rfl rfl rfl ?_
  have hs9 := ss_step (k := 108) (t := 0) (n := 6) (c' := 21) (s := 5) (r := some 108) hs7 (by decide)
  have hn10 := nn_step (k := 108) (t := 0) (n := 6) (c := 21) (s := 5) (r := some 108) hn8
  refine aw_aload_n (i := 0) rfl d_X5_init_44 0 rfl ?_
  refine aw_sipush (v := 168) d_X5_init_45 is_168 ?_
  refine aw_newa (t := 0) (atype := .int) 109 168 (by decide) rfl tw_51 (hn10 109 (by decide) (by decide)) (by decide) xs0 (by decide) (by decide) (by decide) (Nat.le_of_ble_eq_true rfl) (Nat.le_of_ble_eq_true rfl) d_X5_init_48 ?_
  refine aw_putrF (k0 := 6) kc_5 (ss_n hs9 (by decide)) (Nat.le_of_ble_eq_true rfl) tw_441 d_X5_init_50 rfl rfl rfl rfl ?_
  have hs11 := ss_step (k := 109) (t := 0) (n := 168) (c' := 21) (s := 6) (r := some 109) hs9 (by decide)
  have hn12 := nn_step (k := 109) (t := 0) (n := 168) (c := 21) (s := 6) (r := some 109) hn10
  refine aw_aload_n (i := 0) rfl d_X5_init_53 0 rfl ?_
  refine aw_sipush (v := 168) d_X5_init_54 is_168 ?_
  refine aw_newa (t := 0) (atype := .int) 110 168 (by decide) rfl tw_51 (hn12 110 (by decide) (by decide)) (by decide) xs0 (by decide) (by decide) (by decide) (Nat.le_of_ble_eq_true rfl) (Nat.le_of_ble_eq_true rfl) d_X5_init_57 ?_
  refine aw_putrF (k0 := 7) kc_5 (ss_n hs11 (by decide)) (Nat.le_of_ble_eq_true rfl) tw_442 d_X5_init_59 rfl rfl rfl rfl ?_
  have hs13 := ss_step (k := 110) (t := 0) (n := 168) (c' := 21) (s := 7) (r := some 110) hs11 (by decide)
  have hn14 := nn_step (k := 110) (t := 0) (n := 168) (c := 21) (s := 7) (r := some 110) hn12
  refine aw_aload_n (i := 0) rfl d_X5_init_62 0 rfl ?_
  refine aw_sipush (v := 600) d_X5_init_63 is_600 ?_
  refine aw_newa (t := 0) (atype := .int) 111 600 (by decide) rfl tw_51 (hn14 111 (by decide) (by decide)) (by decide) xs0 (by decide) (by decide) (by decide) (Nat.le_of_ble_eq_true rfl) (Nat.le_of_ble_eq_true rfl) d_X5_init_66 ?_
  refine aw_putrF (k0 := 8) kc_5 (ss_n hs13 (by decide)) (Nat.le_of_ble_eq_true rfl) tw_443 d_X5_init_68 rfl rfl rfl rfl ?_
  have hs15 := ss_step (k := 111) (t := 0) (n := 600) (c' := 21) (s := 8) (r := some 111) hs13 (by decide)
  have hn16 := nn_step (k := 111) (t := 0) (n := 600) (c := 21) (s := 8) (r := some 111) hn14
  refine aw_aload_n (i := 0) rfl d_X5_init_71 0 rfl ?_
  refine aw_sipush (v := 600) d_X5_init_72 is_600 ?_
  refine aw_newa (t := 0) (atype := .int) 112 600 (by decide) rfl tw_51 (hn16 112 (by decide) (by decide)) (by decide) xs0 (by decide) (by decide) (by decide) (Nat.le_of_ble_eq_true rfl) (Nat.le_of_ble_eq_true rfl) d_X5_init_75 ?_
  refine aw_putrF (k0 := 9) kc_5 (ss_n hs15 (by decide)) (Nat.le_of_ble_eq_true rfl) tw_444 d_X5_init_77 rfl rfl rfl rfl ?_
  have hs17 := ss_step (k := 112) (t := 0) (n := 600) (c' := 21) (s := 9) (r := some 112) hs15 (by decide)
  have hn18 := nn_step (k := 112) (t := 0) (n := 600) (c := 21) (s := 9) (r := some 112) hn16
  refine aw_aload_n (i := 0) rfl d_X5_init_80 0 rfl ?_
  refine aw_sipush (v := 600) d_X5_init_81 is_600 ?_
  refine aw_newa (t := 0) (atype := .int) 113 600 (by decide) rfl tw_51 (hn18 113 (by decide) (by decide)) (by decide) xs0 (by decide) (by decide) (by decide) (Nat.le_of_ble_eq_true rfl) (Nat.le_of_ble_eq_true rfl) d_X5_init_84 ?_
  refine aw_putrF (k0 := 10) kc_5 (ss_n hs17 (by decide)) (Nat.le_of_ble_eq_true rfl) tw_445 d_X5_init_86 rfl rfl rfl rfl ?_
  have hs19 := ss_step (k := 113) (t := 0) (n := 600) (c' := 21) (s := 10) (r := some 113) hs17 (by decide)
  have hn20 := nn_step (k := 113) (t := 0) (n := 600) (c := 21) (s := 10) (r := some 113) hn18
  refine aw_aload_n (i := 0) rfl d_X5_init_89 0 rfl ?_
  refine aw_sipush (v := 600) d_X5_init_90 is_600 ?_
  refine aw_newa (t := 0) (atype := .int) 114 600 (by decide) rfl tw_51 (hn20 114 (by decide) (by decide)) (by decide) xs0 (by decide) (by decide) (by decide) (Nat.le_of_ble_eq_true rfl) (Nat.le_of_ble_eq_true rfl) d_X5_init_93 ?_
  refine aw_putrF (k0 := 11) kc_5 (ss_n hs19 (by decide)) (Nat.le_of_ble_eq_true rfl) tw_446 d_X5_init_95 rfl rfl rfl rfl ?_
  have hs21 := ss_step (k := 114) (t := 0) (n := 600) (c' := 21) (s := 11) (r := some 114) hs19 (by decide)
  have hn22 := nn_step (k := 114) (t := 0) (n := 600) (c := 21) (s := 11) (r := some 114) hn20
  refine aw_aload_n (i := 0) rfl d_X5_init_98 0 rfl ?_
  refine aw_bipush (v := 48) d_X5_init_99 ib_48 ?_
  refine aw_newa (t := 0) (atype := .int) 115 48 (by decide) rfl tw_51 (hn22 115 (by decide) (by decide)) (by decide) xs0 (by decide) (by decide) (by decide) (Nat.le_of_ble_eq_true rfl) (Nat.le_of_ble_eq_true rfl) d_X5_init_101 ?_
  refine aw_putrF (k0 := 14) kc_5 (ss_n hs21 (by decide)) (Nat.le_of_ble_eq_true rfl) tw_451 d_X5_init_103 rfl rfl rfl rfl ?_
  have hs23 := ss_step (k := 115) (t := 0) (n := 48) (c' := 21) (s := 14) (r := some 115) hs21 (by decide)
  have hn24 := nn_step (k := 115) (t := 0) (n := 48) (c := 21) (s := 14) (r := some 115) hn22
  refine aw_aload_n (i := 0) rfl d_X5_init_106 0 rfl ?_
  refine aw_iconst (v := 3) d_X5_init_107 ic_3 ?_
  refine aw_puti (k0 := 15) kc_5 hs23 (Nat.le_of_ble_eq_true rfl) tw_452 d_X5_init_108 rfl rfl nf_i ?_
  have hs25 := ss_im (a := 21) (k := 15) (x := 3) hs23
  have hn26 := nn_im (b := 21) (k := 15) (x := 3) hn24
  refine aw_aload_n (i := 0) rfl d_X5_init_111 0 rfl ?_
  refine aw_getr (k0 := 14) (b := 115) kc_5 hs25 (Nat.le_of_ble_eq_true rfl) tw_451 d_X5_init_112 rfl rfl ?_
  refine aw_iconst (v := (-1)) d_X5_init_115 ic_m1 ?_
  refine aw_Sv [.ref 115, .int (-1)] [] d_X5_init_116 (cS_J7_fill_53178 (d + 0) 0 0) tw_433 rfl (rr1 (by decide) (by decide) (Nat.le_of_ble_eq_true rfl) (Nat.le_of_ble_eq_true rfl)) (by decide) xs0 (s_J7_fill d _ 115 48 (-1) rfl (by decide)) (fun h9 kk => ?_)
  subst kk
  exact aw_vret rfl d_X5_init_119 ⟨Nat.le_of_ble_eq_true rfl, Nat.le_of_ble_eq_true rfl⟩ ⟨rfl, rfl⟩
end
section
noncomputable def CC_0 (h : Hp_) : Hp_ := h_rm (h_nw (h_rm (h_nw (h_rm (h_nw (h_rm (h_nw (h_rm (h_nw (h_rm (h_nw (h_rm (h_nw (h_rm (h_nw (h_rm (h_nw (h_rm (h_nw (h_rm (h_nw (h_rm (h_nw (h_rm (h_nw (h_rm (h_nw (h_rm (h_nw h 200 0 40) 1 2 (some 200)) 201 0 40) 1 3 (some 201)) 202 0 40) 1 4 (some 202)) 203 0 16) 1 5 (some 203)) 204 0 12) 1 8 (some 204)) 205 0 12) 1 9 (some 205)) 206 0 12) 1 10 (some 206)) 207 0 12) 1 11 (some 207)) 208 0 12) 1 12 (some 208)) 209 0 12) 1 13 (some 209)) 210 0 12) 1 14 (some 210)) 211 0 12) 1 15 (some 211)) 212 0 12) 1 16 (some 212)) 213 0 12) 1 17 (some 213)) 214 0 12) 1 18 (some 214)
theorem cf_0 (h : Hp_) (hs : h_sh h 1 = some (22, 131)) (hn : ∀ a, 200 ≤ a → a < 300 → h_sh h a = none) : h_sh (CC_0 h) 1 = some (22, 131) ∧ (∀ a, 215 ≤ a → a < 300 → h_sh (CC_0 h) a = none) := by
  have hs1 := ss_step (k := 200) (t := 0) (n := 40) (c' := 1) (s := 2) (r := some 200) hs (by decide)
  have hn2 := nn_step (k := 200) (t := 0) (n := 40) (c := 1) (s := 2) (r := some 200) hn
  have hs3 := ss_step (k := 201) (t := 0) (n := 40) (c' := 1) (s := 3) (r := some 201) hs1 (by decide)
  have hn4 := nn_step (k := 201) (t := 0) (n := 40) (c := 1) (s := 3) (r := some 201) hn2
  have hs5 := ss_step (k := 202) (t := 0) (n := 40) (c' := 1) (s := 4) (r := some 202) hs3 (by decide)
  have hn6 := nn_step (k := 202) (t := 0) (n := 40) (c := 1) (s := 4) (r := some 202) hn4
  have hs7 := ss_step (k := 203) (t := 0) (n := 16) (c' := 1) (s := 5) (r := some 203) hs5 (by decide)
  have hn8 := nn_step (k := 203) (t := 0) (n := 16) (c := 1) (s := 5) (r := some 203) hn6
  have hs9 := ss_step (k := 204) (t := 0) (n := 12) (c' := 1) (s := 8) (r := some 204) hs7 (by decide)
  have hn10 := nn_step (k := 204) (t := 0) (n := 12) (c := 1) (s := 8) (r := some 204) hn8
  have hs11 := ss_step (k := 205) (t := 0) (n := 12) (c' := 1) (s := 9) (r := some 205) hs9 (by decide)
  have hn12 := nn_step (k := 205) (t := 0) (n := 12) (c := 1) (s := 9) (r := some 205) hn10
  have hs13 := ss_step (k := 206) (t := 0) (n := 12) (c' := 1) (s := 10) (r := some 206) hs11 (by decide)
  have hn14 := nn_step (k := 206) (t := 0) (n := 12) (c := 1) (s := 10) (r := some 206) hn12
  have hs15 := ss_step (k := 207) (t := 0) (n := 12) (c' := 1) (s := 11) (r := some 207) hs13 (by decide)
  have hn16 := nn_step (k := 207) (t := 0) (n := 12) (c := 1) (s := 11) (r := some 207) hn14
  have hs17 := ss_step (k := 208) (t := 0) (n := 12) (c' := 1) (s := 12) (r := some 208) hs15 (by decide)
  have hn18 := nn_step (k := 208) (t := 0) (n := 12) (c := 1) (s := 12) (r := some 208) hn16
  have hs19 := ss_step (k := 209) (t := 0) (n := 12) (c' := 1) (s := 13) (r := some 209) hs17 (by decide)
  have hn20 := nn_step (k := 209) (t := 0) (n := 12) (c := 1) (s := 13) (r := some 209) hn18
  have hs21 := ss_step (k := 210) (t := 0) (n := 12) (c' := 1) (s := 14) (r := some 210) hs19 (by decide)
  have hn22 := nn_step (k := 210) (t := 0) (n := 12) (c := 1) (s := 14) (r := some 210) hn20
  have hs23 := ss_step (k := 211) (t := 0) (n := 12) (c' := 1) (s := 15) (r := some 211) hs21 (by decide)
  have hn24 := nn_step (k := 211) (t := 0) (n := 12) (c := 1) (s := 15) (r := some 211) hn22
  have hs25 := ss_step (k := 212) (t := 0) (n := 12) (c' := 1) (s := 16) (r := some 212) hs23 (by decide)
  have hn26 := nn_step (k := 212) (t := 0) (n := 12) (c := 1) (s := 16) (r := some 212) hn24
  have hs27 := ss_step (k := 213) (t := 0) (n := 12) (c' := 1) (s := 17) (r := some 213) hs25 (by decide)
  have hn28 := nn_step (k := 213) (t := 0) (n := 12) (c := 1) (s := 17) (r := some 213) hn26
  have hs29 := ss_step (k := 214) (t := 0) (n := 12) (c' := 1) (s := 18) (r := some 214) hs27 (by decide)
  have hn30 := nn_step (k := 214) (t := 0) (n := 12) (c := 1) (s := 18) (r := some 214) hn28
  exact ⟨hs29, hn30⟩
theorem ck_0 (d : Nat) (h : Hp_) (K : Option Value → Hp_ → Prop) (hs : h_sh h 1 = some (22, 131)) (hn : ∀ a, 200 ≤ a → a < 300 → h_sh h a = none) (k : AW (m_X12_init (d + 1) 100 288204) 15 268 124 [(0, .ref 1)] [] (CC_0 h) K) : AW (m_X12_init (d + 1) 100 288204) 0 0 4 [(0, .ref 1)] [] h K := by
  refine aw_aload_n (i := 0) rfl d_X12_init_4 0 rfl ?_
  refine aw_bipush (v := 40) d_X12_init_5 ib_40 ?_
  refine aw_newa (t := 0) (atype := .int) 200 40 (by decide) rfl tw_51 (hn 200 (by decide) (by decide)) (by decide) xs0 (by decide +kernel) (by decide +kernel) (by decide +kernel) (show 0 + 1 ≤ 100 from by decide +kernel) (show 0 + 40 ≤ 288204 from by decide +kernel) d_X12_init_7 ?_
  refine aw_putrF (k0 := 2) kc_12 (ss_n hs (by decide)) (Nat.le_of_ble_eq_true rfl) tw_1744 d_X12_init_9 rfl rfl rfl rfl ?_
  have hs1 := ss_step (k := 200) (t := 0) (n := 40) (c' := 1) (s := 2) (r := some 200) hs (by decide)
  have hn2 := nn_step (k := 200) (t := 0) (n := 40) (c := 1) (s := 2) (r := some 200) hn
  refine aw_aload_n (i := 0) rfl d_X12_init_12 0 rfl ?_
  refine aw_bipush (v := 40) d_X12_init_13 ib_40 ?_
  refine aw_newa (t := 0) (atype := .int) 201 40 (by decide) rfl tw_51 (hn2 201 (by decide) (by decide)) (by decide) xs0 (by decide +kernel) (by decide +kernel) (by decide +kernel) (show 1 + 1 ≤ 100 from by decide +kernel) (show 40 + 40 ≤ 288204 from by decide +kernel) d_X12_init_15 ?_
  refine aw_putrF (k0 := 3) kc_12 (ss_n hs1 (by decide)) (Nat.le_of_ble_eq_true rfl) tw_1745 d_X12_init_17 rfl rfl rfl rfl ?_
  have hs3 := ss_step (k := 201) (t := 0) (n := 40) (c' := 1) (s := 3) (r := some 201) hs1 (by decide)
  have hn4 := nn_step (k := 201) (t := 0) (n := 40) (c := 1) (s := 3) (r := some 201) hn2
  refine aw_aload_n (i := 0) rfl d_X12_init_20 0 rfl ?_
  refine aw_bipush (v := 40) d_X12_init_21 ib_40 ?_
  refine aw_newa (t := 0) (atype := .int) 202 40 (by decide) rfl tw_51 (hn4 202 (by decide) (by decide)) (by decide) xs0 (by decide +kernel) (by decide +kernel) (by decide +kernel) (show 2 + 1 ≤ 100 from by decide +kernel) (show 80 + 40 ≤ 288204 from by decide +kernel) d_X12_init_23 ?_
  refine aw_putrF (k0 := 4) kc_12 (ss_n hs3 (by decide)) (Nat.le_of_ble_eq_true rfl) tw_1746 d_X12_init_25 rfl rfl rfl rfl ?_
  have hs5 := ss_step (k := 202) (t := 0) (n := 40) (c' := 1) (s := 4) (r := some 202) hs3 (by decide)
  have hn6 := nn_step (k := 202) (t := 0) (n := 40) (c := 1) (s := 4) (r := some 202) hn4
  refine aw_aload_n (i := 0) rfl d_X12_init_28 0 rfl ?_
  refine aw_bipush (v := 16) d_X12_init_29 ib_16 ?_
  refine aw_newa (t := 0) (atype := .int) 203 16 (by decide) rfl tw_51 (hn6 203 (by decide) (by decide)) (by decide) xs0 (by decide +kernel) (by decide +kernel) (by decide +kernel) (show 3 + 1 ≤ 100 from by decide +kernel) (show 120 + 16 ≤ 288204 from by decide +kernel) d_X12_init_31 ?_
  refine aw_putrF (k0 := 5) kc_12 (ss_n hs5 (by decide)) (Nat.le_of_ble_eq_true rfl) tw_1747 d_X12_init_33 rfl rfl rfl rfl ?_
  have hs7 := ss_step (k := 203) (t := 0) (n := 16) (c' := 1) (s := 5) (r := some 203) hs5 (by decide)
  have hn8 := nn_step (k := 203) (t := 0) (n := 16) (c := 1) (s := 5) (r := some 203) hn6
  refine aw_aload_n (i := 0) rfl d_X12_init_36 0 rfl ?_
  refine aw_bipush (v := 12) d_X12_init_37 ib_12 ?_
  refine aw_newa (t := 0) (atype := .int) 204 12 (by decide) rfl tw_51 (hn8 204 (by decide) (by decide)) (by decide) xs0 (by decide +kernel) (by decide +kernel) (by decide +kernel) (show 4 + 1 ≤ 100 from by decide +kernel) (show 136 + 12 ≤ 288204 from by decide +kernel) d_X12_init_39 ?_
  refine aw_putrF (k0 := 8) kc_12 (ss_n hs7 (by decide)) (Nat.le_of_ble_eq_true rfl) tw_1750 d_X12_init_41 rfl rfl rfl rfl ?_
  have hs9 := ss_step (k := 204) (t := 0) (n := 12) (c' := 1) (s := 8) (r := some 204) hs7 (by decide)
  have hn10 := nn_step (k := 204) (t := 0) (n := 12) (c := 1) (s := 8) (r := some 204) hn8
  refine aw_aload_n (i := 0) rfl d_X12_init_44 0 rfl ?_
  refine aw_bipush (v := 12) d_X12_init_45 ib_12 ?_
  refine aw_newa (t := 0) (atype := .int) 205 12 (by decide) rfl tw_51 (hn10 205 (by decide) (by decide)) (by decide) xs0 (by decide +kernel) (by decide +kernel) (by decide +kernel) (show 5 + 1 ≤ 100 from by decide +kernel) (show 148 + 12 ≤ 288204 from by decide +kernel) d_X12_init_47 ?_
  refine aw_putrF (k0 := 9) kc_12 (ss_n hs9 (by decide)) (Nat.le_of_ble_eq_true rfl) tw_1751 d_X12_init_49 rfl rfl rfl rfl ?_
  have hs11 := ss_step (k := 205) (t := 0) (n := 12) (c' := 1) (s := 9) (r := some 205) hs9 (by decide)
  have hn12 := nn_step (k := 205) (t := 0) (n := 12) (c := 1) (s := 9) (r := some 205) hn10
  refine aw_aload_n (i := 0) rfl d_X12_init_52 0 rfl ?_
  refine aw_bipush (v := 12) d_X12_init_53 ib_12 ?_
  refine aw_newa (t := 0) (atype := .int) 206 12 (by decide) rfl tw_51 (hn12 206 (by decide) (by decide)) (by decide) xs0 (by decide +kernel) (by decide +kernel) (by decide +kernel) (show 6 + 1 ≤ 100 from by decide +kernel) (show 160 + 12 ≤ 288204 from by decide +kernel) d_X12_init_55 ?_
  refine aw_putrF (k0 := 10) kc_12 (ss_n hs11 (by decide)) (Nat.le_of_ble_eq_true rfl) tw_1752 d_X12_init_57 rfl rfl rfl rfl ?_
  have hs13 := ss_step (k := 206) (t := 0) (n := 12) (c' := 1) (s := 10) (r := some 206) hs11 (by decide)
  have hn14 := nn_step (k := 206) (t := 0) (n := 12) (c := 1) (s := 10) (r := some 206) hn12
  refine aw_aload_n (i := 0) rfl d_X12_init_60 0 rfl ?_
  refine aw_bipush (v := 12) d_X12_init_61 ib_12 ?_
  refine aw_newa (t := 0) (atype := .int) 207 12 (by decide) rfl tw_51 (hn14 207 (by decide) (by decide)) (by decide) xs0 (by decide +kernel) (by decide +kernel) (by decide +kernel) (show 7 + 1 ≤ 100 from by decide +kernel) (show 172 + 12 ≤ 288204 from by decide +kernel) d_X12_init_63 ?_
  refine aw_putrF (k0 := 11) kc_12 (ss_n hs13 (by decide)) (Nat.le_of_ble_eq_true rfl) tw_1753 d_X12_init_65 rfl rfl rfl rfl ?_
  have hs15 := ss_step (k := 207) (t := 0) (n := 12) (c' := 1) (s := 11) (r := some 207) hs13 (by decide)
  have hn16 := nn_step (k := 207) (t := 0) (n := 12) (c := 1) (s := 11) (r := some 207) hn14
  refine aw_aload_n (i := 0) rfl d_X12_init_68 0 rfl ?_
  refine aw_bipush (v := 12) d_X12_init_69 ib_12 ?_
  refine aw_newa (t := 0) (atype := .int) 208 12 (by decide) rfl tw_51 (hn16 208 (by decide) (by decide)) (by decide) xs0 (by decide +kernel) (by decide +kernel) (by decide +kernel) (show 8 + 1 ≤ 100 from by decide +kernel) (show 184 + 12 ≤ 288204 from by decide +kernel) d_X12_init_71 ?_
  refine aw_putrF (k0 := 12) kc_12 (ss_n hs15 (by decide)) (Nat.le_of_ble_eq_true rfl) tw_1754 d_X12_init_73 rfl rfl rfl rfl ?_
  have hs17 := ss_step (k := 208) (t := 0) (n := 12) (c' := 1) (s := 12) (r := some 208) hs15 (by decide)
  have hn18 := nn_step (k := 208) (t := 0) (n := 12) (c := 1) (s := 12) (r := some 208) hn16
  refine aw_aload_n (i := 0) rfl d_X12_init_76 0 rfl ?_
  refine aw_bipush (v := 12) d_X12_init_77 ib_12 ?_
  refine aw_newa (t := 0) (atype := .int) 209 12 (by decide) rfl tw_51 (hn18 209 (by decide) (by decide)) (by decide) xs0 (by decide +kernel) (by decide +kernel) (by decide +kernel) (show 9 + 1 ≤ 100 from by decide +kernel) (show 196 + 12 ≤ 288204 from by decide +kernel) d_X12_init_79 ?_
  refine aw_putrF (k0 := 13) kc_12 (ss_n hs17 (by decide)) (Nat.le_of_ble_eq_true rfl) tw_1755 d_X12_init_81 rfl rfl rfl rfl ?_
  have hs19 := ss_step (k := 209) (t := 0) (n := 12) (c' := 1) (s := 13) (r := some 209) hs17 (by decide)
  have hn20 := nn_step (k := 209) (t := 0) (n := 12) (c := 1) (s := 13) (r := some 209) hn18
  refine aw_aload_n (i := 0) rfl d_X12_init_84 0 rfl ?_
  refine aw_bipush (v := 12) d_X12_init_85 ib_12 ?_
  refine aw_newa (t := 0) (atype := .int) 210 12 (by decide) rfl tw_51 (hn20 210 (by decide) (by decide)) (by decide) xs0 (by decide +kernel) (by decide +kernel) (by decide +kernel) (show 10 + 1 ≤ 100 from by decide +kernel) (show 208 + 12 ≤ 288204 from by decide +kernel) d_X12_init_87 ?_
  refine aw_putrF (k0 := 14) kc_12 (ss_n hs19 (by decide)) (Nat.le_of_ble_eq_true rfl) tw_1756 d_X12_init_89 rfl rfl rfl rfl ?_
  have hs21 := ss_step (k := 210) (t := 0) (n := 12) (c' := 1) (s := 14) (r := some 210) hs19 (by decide)
  have hn22 := nn_step (k := 210) (t := 0) (n := 12) (c := 1) (s := 14) (r := some 210) hn20
  refine aw_aload_n (i := 0) rfl d_X12_init_92 0 rfl ?_
  refine aw_bipush (v := 12) d_X12_init_93 ib_12 ?_
  refine aw_newa (t := 0) (atype := .int) 211 12 (by decide) rfl tw_51 (hn22 211 (by decide) (by decide)) (by decide) xs0 (by decide +kernel) (by decide +kernel) (by decide +kernel) (show 11 + 1 ≤ 100 from by decide +kernel) (show 220 + 12 ≤ 288204 from by decide +kernel) d_X12_init_95 ?_
  refine aw_putrF (k0 := 15) kc_12 (ss_n hs21 (by decide)) (Nat.le_of_ble_eq_true rfl) tw_1757 d_X12_init_97 rfl rfl rfl rfl ?_
  have hs23 := ss_step (k := 211) (t := 0) (n := 12) (c' := 1) (s := 15) (r := some 211) hs21 (by decide)
  have hn24 := nn_step (k := 211) (t := 0) (n := 12) (c := 1) (s := 15) (r := some 211) hn22
  refine aw_aload_n (i := 0) rfl d_X12_init_100 0 rfl ?_
  refine aw_bipush (v := 12) d_X12_init_101 ib_12 ?_
  refine aw_newa (t := 0) (atype := .int) 212 12 (by decide) rfl tw_51 (hn24 212 (by decide) (by decide)) (by decide) xs0 (by decide +kernel) (by decide +kernel) (by decide +kernel) (show 12 + 1 ≤ 100 from by decide +kernel) (show 232 + 12 ≤ 288204 from by decide +kernel) d_X12_init_103 ?_
  refine aw_putrF (k0 := 16) kc_12 (ss_n hs23 (by decide)) (Nat.le_of_ble_eq_true rfl) tw_1758 d_X12_init_105 rfl rfl rfl rfl ?_
  have hs25 := ss_step (k := 212) (t := 0) (n := 12) (c' := 1) (s := 16) (r := some 212) hs23 (by decide)
  have hn26 := nn_step (k := 212) (t := 0) (n := 12) (c := 1) (s := 16) (r := some 212) hn24
  refine aw_aload_n (i := 0) rfl d_X12_init_108 0 rfl ?_
  refine aw_bipush (v := 12) d_X12_init_109 ib_12 ?_
  refine aw_newa (t := 0) (atype := .int) 213 12 (by decide) rfl tw_51 (hn26 213 (by decide) (by decide)) (by decide) xs0 (by decide +kernel) (by decide +kernel) (by decide +kernel) (show 13 + 1 ≤ 100 from by decide +kernel) (show 244 + 12 ≤ 288204 from by decide +kernel) d_X12_init_111 ?_
  refine aw_putrF (k0 := 17) kc_12 (ss_n hs25 (by decide)) (Nat.le_of_ble_eq_true rfl) tw_1759 d_X12_init_113 rfl rfl rfl rfl ?_
  have hs27 := ss_step (k := 213) (t := 0) (n := 12) (c' := 1) (s := 17) (r := some 213) hs25 (by decide)
  have hn28 := nn_step (k := 213) (t := 0) (n := 12) (c := 1) (s := 17) (r := some 213) hn26
  refine aw_aload_n (i := 0) rfl d_X12_init_116 0 rfl ?_
  refine aw_bipush (v := 12) d_X12_init_117 ib_12 ?_
  refine aw_newa (t := 0) (atype := .int) 214 12 (by decide) rfl tw_51 (hn28 214 (by decide) (by decide)) (by decide) xs0 (by decide +kernel) (by decide +kernel) (by decide +kernel) (show 14 + 1 ≤ 100 from by decide +kernel) (show 256 + 12 ≤ 288204 from by decide +kernel) d_X12_init_119 ?_
  refine aw_putrF (k0 := 18) kc_12 (ss_n hs27 (by decide)) (Nat.le_of_ble_eq_true rfl) tw_1760 d_X12_init_121 rfl rfl rfl rfl ?_
  have hs29 := ss_step (k := 214) (t := 0) (n := 12) (c' := 1) (s := 18) (r := some 214) hs27 (by decide)
  have hn30 := nn_step (k := 214) (t := 0) (n := 12) (c := 1) (s := 18) (r := some 214) hn28
  exact k
noncomputable def CC_1 (h : Hp_) : Hp_ := h_rm (h_nw (h_rm (h_nw (h_rm (h_nw (h_rm (h_nw (h_rm (h_nw (h_rm (h_nw (h_rm (h_nw (h_rm (h_nw (h_rm (h_nw (h_rm (h_nw (h_rm (h_nw (h_rm (h_nw (h_rm (h_nw (h_rm (h_nw (h_rm (h_nw h 215 0 12) 1 19 (some 215)) 216 0 12) 1 20 (some 216)) 217 0 12) 1 21 (some 217)) 218 0 12) 1 22 (some 218)) 219 0 12) 1 23 (some 219)) 220 2 240012) 1 24 (some 220)) 221 0 40) 1 25 (some 221)) 222 0 40) 1 26 (some 222)) 223 0 40) 1 27 (some 223)) 224 0 40) 1 28 (some 224)) 225 0 160) 1 30 (some 225)) 226 0 560) 1 31 (some 226)) 227 0 12) 1 38 (some 227)) 228 0 1800) 1 39 (some 228)) 229 0 1800) 1 40 (some 229)
theorem cf_1 (h : Hp_) (hs : h_sh h 1 = some (22, 131)) (hn : ∀ a, 215 ≤ a → a < 300 → h_sh h a = none) : h_sh (CC_1 h) 1 = some (22, 131) ∧ (∀ a, 230 ≤ a → a < 300 → h_sh (CC_1 h) a = none) := by
  have hs1 := ss_step (k := 215) (t := 0) (n := 12) (c' := 1) (s := 19) (r := some 215) hs (by decide)
  have hn2 := nn_step (k := 215) (t := 0) (n := 12) (c := 1) (s := 19) (r := some 215) hn
  have hs3 := ss_step (k := 216) (t := 0) (n := 12) (c' := 1) (s := 20) (r := some 216) hs1 (by decide)
  have hn4 := nn_step (k := 216) (t := 0) (n := 12) (c := 1) (s := 20) (r := some 216) hn2
  have hs5 := ss_step (k := 217) (t := 0) (n := 12) (c' := 1) (s := 21) (r := some 217) hs3 (by decide)
  have hn6 := nn_step (k := 217) (t := 0) (n := 12) (c := 1) (s := 21) (r := some 217) hn4
  have hs7 := ss_step (k := 218) (t := 0) (n := 12) (c' := 1) (s := 22) (r := some 218) hs5 (by decide)
  have hn8 := nn_step (k := 218) (t := 0) (n := 12) (c := 1) (s := 22) (r := some 218) hn6
  have hs9 := ss_step (k := 219) (t := 0) (n := 12) (c' := 1) (s := 23) (r := some 219) hs7 (by decide)
  have hn10 := nn_step (k := 219) (t := 0) (n := 12) (c := 1) (s := 23) (r := some 219) hn8
  have hs11 := ss_step (k := 220) (t := 2) (n := 240012) (c' := 1) (s := 24) (r := some 220) hs9 (by decide)
  have hn12 := nn_step (k := 220) (t := 2) (n := 240012) (c := 1) (s := 24) (r := some 220) hn10
  have hs13 := ss_step (k := 221) (t := 0) (n := 40) (c' := 1) (s := 25) (r := some 221) hs11 (by decide)
  have hn14 := nn_step (k := 221) (t := 0) (n := 40) (c := 1) (s := 25) (r := some 221) hn12
  have hs15 := ss_step (k := 222) (t := 0) (n := 40) (c' := 1) (s := 26) (r := some 222) hs13 (by decide)
  have hn16 := nn_step (k := 222) (t := 0) (n := 40) (c := 1) (s := 26) (r := some 222) hn14
  have hs17 := ss_step (k := 223) (t := 0) (n := 40) (c' := 1) (s := 27) (r := some 223) hs15 (by decide)
  have hn18 := nn_step (k := 223) (t := 0) (n := 40) (c := 1) (s := 27) (r := some 223) hn16
  have hs19 := ss_step (k := 224) (t := 0) (n := 40) (c' := 1) (s := 28) (r := some 224) hs17 (by decide)
  have hn20 := nn_step (k := 224) (t := 0) (n := 40) (c := 1) (s := 28) (r := some 224) hn18
  have hs21 := ss_step (k := 225) (t := 0) (n := 160) (c' := 1) (s := 30) (r := some 225) hs19 (by decide)
  have hn22 := nn_step (k := 225) (t := 0) (n := 160) (c := 1) (s := 30) (r := some 225) hn20
  have hs23 := ss_step (k := 226) (t := 0) (n := 560) (c' := 1) (s := 31) (r := some 226) hs21 (by decide)
  have hn24 := nn_step (k := 226) (t := 0) (n := 560) (c := 1) (s := 31) (r := some 226) hn22
  have hs25 := ss_step (k := 227) (t := 0) (n := 12) (c' := 1) (s := 38) (r := some 227) hs23 (by decide)
  have hn26 := nn_step (k := 227) (t := 0) (n := 12) (c := 1) (s := 38) (r := some 227) hn24
  have hs27 := ss_step (k := 228) (t := 0) (n := 1800) (c' := 1) (s := 39) (r := some 228) hs25 (by decide)
  have hn28 := nn_step (k := 228) (t := 0) (n := 1800) (c := 1) (s := 39) (r := some 228) hn26
  have hs29 := ss_step (k := 229) (t := 0) (n := 1800) (c' := 1) (s := 40) (r := some 229) hs27 (by decide)
  have hn30 := nn_step (k := 229) (t := 0) (n := 1800) (c := 1) (s := 40) (r := some 229) hn28
  exact ⟨hs29, hn30⟩
theorem ck_1 (d : Nat) (h : Hp_) (K : Option Value → Hp_ → Prop) (hs : h_sh h 1 = some (22, 131)) (hn : ∀ a, 215 ≤ a → a < 300 → h_sh h a = none) (k : AW (m_X12_init (d + 1) 100 288204) 30 244832 248 [(0, .ref 1)] [] (CC_1 h) K) : AW (m_X12_init (d + 1) 100 288204) 15 268 124 [(0, .ref 1)] [] h K := by
  refine aw_aload_n (i := 0) rfl d_X12_init_124 0 rfl ?_
  refine aw_bipush (v := 12) d_X12_init_125 ib_12 ?_
  refine aw_newa (t := 0) (atype := .int) 215 12 (by decide) rfl tw_51 (hn 215 (by decide) (by decide)) (by decide) xs0 (by decide +kernel) (by decide +kernel) (by decide +kernel) (show 15 + 1 ≤ 100 from by decide +kernel) (show 268 + 12 ≤ 288204 from by decide +kernel) d_X12_init_127 ?_
  refine aw_putrF (k0 := 19) kc_12 (ss_n hs (by decide)) (Nat.le_of_ble_eq_true rfl) tw_1761 d_X12_init_129 rfl rfl rfl rfl ?_
  have hs1 := ss_step (k := 215) (t := 0) (n := 12) (c' := 1) (s := 19) (r := some 215) hs (by decide)
  have hn2 := nn_step (k := 215) (t := 0) (n := 12) (c := 1) (s := 19) (r := some 215) hn
  refine aw_aload_n (i := 0) rfl d_X12_init_132 0 rfl ?_
  refine aw_bipush (v := 12) d_X12_init_133 ib_12 ?_
  refine aw_newa (t := 0) (atype := .int) 216 12 (by decide) rfl tw_51 (hn2 216 (by decide) (by decide)) (by decide) xs0 (by decide +kernel) (by decide +kernel) (by decide +kernel) (show 16 + 1 ≤ 100 from by decide +kernel) (show 280 + 12 ≤ 288204 from by decide +kernel) d_X12_init_135 ?_
  refine aw_putrF (k0 := 20) kc_12 (ss_n hs1 (by decide)) (Nat.le_of_ble_eq_true rfl) tw_1762 d_X12_init_137 rfl rfl rfl rfl ?_
  have hs3 := ss_step (k := 216) (t := 0) (n := 12) (c' := 1) (s := 20) (r := some 216) hs1 (by decide)
  have hn4 := nn_step (k := 216) (t := 0) (n := 12) (c := 1) (s := 20) (r := some 216) hn2
  refine aw_aload_n (i := 0) rfl d_X12_init_140 0 rfl ?_
  refine aw_bipush (v := 12) d_X12_init_141 ib_12 ?_
  refine aw_newa (t := 0) (atype := .int) 217 12 (by decide) rfl tw_51 (hn4 217 (by decide) (by decide)) (by decide) xs0 (by decide +kernel) (by decide +kernel) (by decide +kernel) (show 17 + 1 ≤ 100 from by decide +kernel) (show 292 + 12 ≤ 288204 from by decide +kernel) d_X12_init_143 ?_
  refine aw_putrF (k0 := 21) kc_12 (ss_n hs3 (by decide)) (Nat.le_of_ble_eq_true rfl) tw_1763 d_X12_init_145 rfl rfl rfl rfl ?_
  have hs5 := ss_step (k := 217) (t := 0) (n := 12) (c' := 1) (s := 21) (r := some 217) hs3 (by decide)
  have hn6 := nn_step (k := 217) (t := 0) (n := 12) (c := 1) (s := 21) (r := some 217) hn4
  refine aw_aload_n (i := 0) rfl d_X12_init_148 0 rfl ?_
  refine aw_bipush (v := 12) d_X12_init_149 ib_12 ?_
  refine aw_newa (t := 0) (atype := .int) 218 12 (by decide) rfl tw_51 (hn6 218 (by decide) (by decide)) (by decide) xs0 (by decide +kernel) (by decide +kernel) (by decide +kernel) (show 18 + 1 ≤ 100 from by decide +kernel) (show 304 + 12 ≤ 288204 from by decide +kernel) d_X12_init_151 ?_
  refine aw_putrF (k0 := 22) kc_12 (ss_n hs5 (by decide)) (Nat.le_of_ble_eq_true rfl) tw_1764 d_X12_init_153 rfl rfl rfl rfl ?_
  have hs7 := ss_step (k := 218) (t := 0) (n := 12) (c' := 1) (s := 22) (r := some 218) hs5 (by decide)
  have hn8 := nn_step (k := 218) (t := 0) (n := 12) (c := 1) (s := 22) (r := some 218) hn6
  refine aw_aload_n (i := 0) rfl d_X12_init_156 0 rfl ?_
  refine aw_bipush (v := 12) d_X12_init_157 ib_12 ?_
  refine aw_newa (t := 0) (atype := .int) 219 12 (by decide) rfl tw_51 (hn8 219 (by decide) (by decide)) (by decide) xs0 (by decide +kernel) (by decide +kernel) (by decide +kernel) (show 19 + 1 ≤ 100 from by decide +kernel) (show 316 + 12 ≤ 288204 from by decide +kernel) d_X12_init_159 ?_
  refine aw_putrF (k0 := 23) kc_12 (ss_n hs7 (by decide)) (Nat.le_of_ble_eq_true rfl) tw_1765 d_X12_init_161 rfl rfl rfl rfl ?_
  have hs9 := ss_step (k := 219) (t := 0) (n := 12) (c' := 1) (s := 23) (r := some 219) hs7 (by decide)
  have hn10 := nn_step (k := 219) (t := 0) (n := 12) (c := 1) (s := 23) (r := some 219) hn8
  refine aw_aload_n (i := 0) rfl d_X12_init_164 0 rfl ?_
  refine aw_ldc (v := 240012) d_X12_init_165 tw_1741 ?_
  refine aw_newa (t := 2) (atype := .byte) 220 240012 (by decide) rfl tw_96 (hn10 220 (by decide) (by decide)) (by decide) xs0 (by decide +kernel) (by decide +kernel) (by decide +kernel) (show 20 + 1 ≤ 100 from by decide +kernel) (show 328 + 240012 ≤ 288204 from by decide +kernel) d_X12_init_167 ?_
  refine aw_putrF (k0 := 24) kc_12 (ss_n hs9 (by decide)) (Nat.le_of_ble_eq_true rfl) tw_1766 d_X12_init_169 rfl rfl rfl rfl ?_
  have hs11 := ss_step (k := 220) (t := 2) (n := 240012) (c' := 1) (s := 24) (r := some 220) hs9 (by decide)
  have hn12 := nn_step (k := 220) (t := 2) (n := 240012) (c := 1) (s := 24) (r := some 220) hn10
  refine aw_aload_n (i := 0) rfl d_X12_init_172 0 rfl ?_
  refine aw_bipush (v := 40) d_X12_init_173 ib_40 ?_
  refine aw_newa (t := 0) (atype := .int) 221 40 (by decide) rfl tw_51 (hn12 221 (by decide) (by decide)) (by decide) xs0 (by decide +kernel) (by decide +kernel) (by decide +kernel) (show 21 + 1 ≤ 100 from by decide +kernel) (show 240340 + 40 ≤ 288204 from by decide +kernel) d_X12_init_175 ?_
  refine aw_putrF (k0 := 25) kc_12 (ss_n hs11 (by decide)) (Nat.le_of_ble_eq_true rfl) tw_1767 d_X12_init_177 rfl rfl rfl rfl ?_
  have hs13 := ss_step (k := 221) (t := 0) (n := 40) (c' := 1) (s := 25) (r := some 221) hs11 (by decide)
  have hn14 := nn_step (k := 221) (t := 0) (n := 40) (c := 1) (s := 25) (r := some 221) hn12
  refine aw_aload_n (i := 0) rfl d_X12_init_180 0 rfl ?_
  refine aw_bipush (v := 40) d_X12_init_181 ib_40 ?_
  refine aw_newa (t := 0) (atype := .int) 222 40 (by decide) rfl tw_51 (hn14 222 (by decide) (by decide)) (by decide) xs0 (by decide +kernel) (by decide +kernel) (by decide +kernel) (show 22 + 1 ≤ 100 from by decide +kernel) (show 240380 + 40 ≤ 288204 from by decide +kernel) d_X12_init_183 ?_
  refine aw_putrF (k0 := 26) kc_12 (ss_n hs13 (by decide)) (Nat.le_of_ble_eq_true rfl) tw_1768 d_X12_init_185 rfl rfl rfl rfl ?_
  have hs15 := ss_step (k := 222) (t := 0) (n := 40) (c' := 1) (s := 26) (r := some 222) hs13 (by decide)
  have hn16 := nn_step (k := 222) (t := 0) (n := 40) (c := 1) (s := 26) (r := some 222) hn14
  refine aw_aload_n (i := 0) rfl d_X12_init_188 0 rfl ?_
  refine aw_bipush (v := 40) d_X12_init_189 ib_40 ?_
  refine aw_newa (t := 0) (atype := .int) 223 40 (by decide) rfl tw_51 (hn16 223 (by decide) (by decide)) (by decide) xs0 (by decide +kernel) (by decide +kernel) (by decide +kernel) (show 23 + 1 ≤ 100 from by decide +kernel) (show 240420 + 40 ≤ 288204 from by decide +kernel) d_X12_init_191 ?_
  refine aw_putrF (k0 := 27) kc_12 (ss_n hs15 (by decide)) (Nat.le_of_ble_eq_true rfl) tw_1769 d_X12_init_193 rfl rfl rfl rfl ?_
  have hs17 := ss_step (k := 223) (t := 0) (n := 40) (c' := 1) (s := 27) (r := some 223) hs15 (by decide)
  have hn18 := nn_step (k := 223) (t := 0) (n := 40) (c := 1) (s := 27) (r := some 223) hn16
  refine aw_aload_n (i := 0) rfl d_X12_init_196 0 rfl ?_
  refine aw_bipush (v := 40) d_X12_init_197 ib_40 ?_
  refine aw_newa (t := 0) (atype := .int) 224 40 (by decide) rfl tw_51 (hn18 224 (by decide) (by decide)) (by decide) xs0 (by decide +kernel) (by decide +kernel) (by decide +kernel) (show 24 + 1 ≤ 100 from by decide +kernel) (show 240460 + 40 ≤ 288204 from by decide +kernel) d_X12_init_199 ?_
  refine aw_putrF (k0 := 28) kc_12 (ss_n hs17 (by decide)) (Nat.le_of_ble_eq_true rfl) tw_1770 d_X12_init_201 rfl rfl rfl rfl ?_
  have hs19 := ss_step (k := 224) (t := 0) (n := 40) (c' := 1) (s := 28) (r := some 224) hs17 (by decide)
  have hn20 := nn_step (k := 224) (t := 0) (n := 40) (c := 1) (s := 28) (r := some 224) hn18
  refine aw_aload_n (i := 0) rfl d_X12_init_204 0 rfl ?_
  refine aw_sipush (v := 160) d_X12_init_205 is_160 ?_
  refine aw_newa (t := 0) (atype := .int) 225 160 (by decide) rfl tw_51 (hn20 225 (by decide) (by decide)) (by decide) xs0 (by decide +kernel) (by decide +kernel) (by decide +kernel) (show 25 + 1 ≤ 100 from by decide +kernel) (show 240500 + 160 ≤ 288204 from by decide +kernel) d_X12_init_208 ?_
  refine aw_putrF (k0 := 30) kc_12 (ss_n hs19 (by decide)) (Nat.le_of_ble_eq_true rfl) tw_1772 d_X12_init_210 rfl rfl rfl rfl ?_
  have hs21 := ss_step (k := 225) (t := 0) (n := 160) (c' := 1) (s := 30) (r := some 225) hs19 (by decide)
  have hn22 := nn_step (k := 225) (t := 0) (n := 160) (c := 1) (s := 30) (r := some 225) hn20
  refine aw_aload_n (i := 0) rfl d_X12_init_213 0 rfl ?_
  refine aw_sipush (v := 560) d_X12_init_214 is_560 ?_
  refine aw_newa (t := 0) (atype := .int) 226 560 (by decide) rfl tw_51 (hn22 226 (by decide) (by decide)) (by decide) xs0 (by decide +kernel) (by decide +kernel) (by decide +kernel) (show 26 + 1 ≤ 100 from by decide +kernel) (show 240660 + 560 ≤ 288204 from by decide +kernel) d_X12_init_217 ?_
  refine aw_putrF (k0 := 31) kc_12 (ss_n hs21 (by decide)) (Nat.le_of_ble_eq_true rfl) tw_1773 d_X12_init_219 rfl rfl rfl rfl ?_
  have hs23 := ss_step (k := 226) (t := 0) (n := 560) (c' := 1) (s := 31) (r := some 226) hs21 (by decide)
  have hn24 := nn_step (k := 226) (t := 0) (n := 560) (c := 1) (s := 31) (r := some 226) hn22
  refine aw_aload_n (i := 0) rfl d_X12_init_222 0 rfl ?_
  refine aw_bipush (v := 12) d_X12_init_223 ib_12 ?_
  refine aw_newa (t := 0) (atype := .int) 227 12 (by decide) rfl tw_51 (hn24 227 (by decide) (by decide)) (by decide) xs0 (by decide +kernel) (by decide +kernel) (by decide +kernel) (show 27 + 1 ≤ 100 from by decide +kernel) (show 241220 + 12 ≤ 288204 from by decide +kernel) d_X12_init_225 ?_
  refine aw_putrF (k0 := 38) kc_12 (ss_n hs23 (by decide)) (Nat.le_of_ble_eq_true rfl) tw_1780 d_X12_init_227 rfl rfl rfl rfl ?_
  have hs25 := ss_step (k := 227) (t := 0) (n := 12) (c' := 1) (s := 38) (r := some 227) hs23 (by decide)
  have hn26 := nn_step (k := 227) (t := 0) (n := 12) (c := 1) (s := 38) (r := some 227) hn24
  refine aw_aload_n (i := 0) rfl d_X12_init_230 0 rfl ?_
  refine aw_sipush (v := 1800) d_X12_init_231 is_1800 ?_
  refine aw_newa (t := 0) (atype := .int) 228 1800 (by decide) rfl tw_51 (hn26 228 (by decide) (by decide)) (by decide) xs0 (by decide +kernel) (by decide +kernel) (by decide +kernel) (show 28 + 1 ≤ 100 from by decide +kernel) (show 241232 + 1800 ≤ 288204 from by decide +kernel) d_X12_init_234 ?_
  refine aw_putrF (k0 := 39) kc_12 (ss_n hs25 (by decide)) (Nat.le_of_ble_eq_true rfl) tw_1781 d_X12_init_236 rfl rfl rfl rfl ?_
  have hs27 := ss_step (k := 228) (t := 0) (n := 1800) (c' := 1) (s := 39) (r := some 228) hs25 (by decide)
  have hn28 := nn_step (k := 228) (t := 0) (n := 1800) (c := 1) (s := 39) (r := some 228) hn26
  refine aw_aload_n (i := 0) rfl d_X12_init_239 0 rfl ?_
  refine aw_sipush (v := 1800) d_X12_init_240 is_1800 ?_
  refine aw_newa (t := 0) (atype := .int) 229 1800 (by decide) rfl tw_51 (hn28 229 (by decide) (by decide)) (by decide) xs0 (by decide +kernel) (by decide +kernel) (by decide +kernel) (show 29 + 1 ≤ 100 from by decide +kernel) (show 243032 + 1800 ≤ 288204 from by decide +kernel) d_X12_init_243 ?_
  refine aw_putrF (k0 := 40) kc_12 (ss_n hs27 (by decide)) (Nat.le_of_ble_eq_true rfl) tw_1782 d_X12_init_245 rfl rfl rfl rfl ?_
  have hs29 := ss_step (k := 229) (t := 0) (n := 1800) (c' := 1) (s := 40) (r := some 229) hs27 (by decide)
  have hn30 := nn_step (k := 229) (t := 0) (n := 1800) (c := 1) (s := 40) (r := some 229) hn28
  exact k
noncomputable def CC_2 (h : Hp_) : Hp_ := h_rm (h_nw (h_rm (h_nw (h_rm (h_nw (h_rm (h_nw (h_rm (h_nw (h_rm (h_nw (h_rm (h_nw (h_rm (h_nw (h_rm (h_nw (h_rm (h_nw (h_rm (h_nw (h_rm (h_nw (h_rm (h_nw (h_rm (h_nw (h_rm (h_nw h 230 0 1800) 1 41 (some 230)) 231 0 22400) 1 45 (some 231)) 232 0 40) 1 46 (some 232)) 233 0 40) 1 47 (some 233)) 234 0 40) 1 48 (some 234)) 235 0 2) 1 49 (some 235)) 236 0 128) 1 50 (some 236)) 237 0 200) 1 51 (some 237)) 238 0 400) 1 53 (some 238)) 239 0 400) 1 54 (some 239)) 240 0 400) 1 55 (some 240)) 241 0 400) 1 56 (some 241)) 242 0 400) 1 57 (some 242)) 243 0 400) 1 58 (some 243)) 244 0 400) 1 59 (some 244)
theorem cf_2 (h : Hp_) (hs : h_sh h 1 = some (22, 131)) (hn : ∀ a, 230 ≤ a → a < 300 → h_sh h a = none) : h_sh (CC_2 h) 1 = some (22, 131) ∧ (∀ a, 245 ≤ a → a < 300 → h_sh (CC_2 h) a = none) := by
  have hs1 := ss_step (k := 230) (t := 0) (n := 1800) (c' := 1) (s := 41) (r := some 230) hs (by decide)
  have hn2 := nn_step (k := 230) (t := 0) (n := 1800) (c := 1) (s := 41) (r := some 230) hn
  have hs3 := ss_step (k := 231) (t := 0) (n := 22400) (c' := 1) (s := 45) (r := some 231) hs1 (by decide)
  have hn4 := nn_step (k := 231) (t := 0) (n := 22400) (c := 1) (s := 45) (r := some 231) hn2
  have hs5 := ss_step (k := 232) (t := 0) (n := 40) (c' := 1) (s := 46) (r := some 232) hs3 (by decide)
  have hn6 := nn_step (k := 232) (t := 0) (n := 40) (c := 1) (s := 46) (r := some 232) hn4
  have hs7 := ss_step (k := 233) (t := 0) (n := 40) (c' := 1) (s := 47) (r := some 233) hs5 (by decide)
  have hn8 := nn_step (k := 233) (t := 0) (n := 40) (c := 1) (s := 47) (r := some 233) hn6
  have hs9 := ss_step (k := 234) (t := 0) (n := 40) (c' := 1) (s := 48) (r := some 234) hs7 (by decide)
  have hn10 := nn_step (k := 234) (t := 0) (n := 40) (c := 1) (s := 48) (r := some 234) hn8
  have hs11 := ss_step (k := 235) (t := 0) (n := 2) (c' := 1) (s := 49) (r := some 235) hs9 (by decide)
  have hn12 := nn_step (k := 235) (t := 0) (n := 2) (c := 1) (s := 49) (r := some 235) hn10
  have hs13 := ss_step (k := 236) (t := 0) (n := 128) (c' := 1) (s := 50) (r := some 236) hs11 (by decide)
  have hn14 := nn_step (k := 236) (t := 0) (n := 128) (c := 1) (s := 50) (r := some 236) hn12
  have hs15 := ss_step (k := 237) (t := 0) (n := 200) (c' := 1) (s := 51) (r := some 237) hs13 (by decide)
  have hn16 := nn_step (k := 237) (t := 0) (n := 200) (c := 1) (s := 51) (r := some 237) hn14
  have hs17 := ss_step (k := 238) (t := 0) (n := 400) (c' := 1) (s := 53) (r := some 238) hs15 (by decide)
  have hn18 := nn_step (k := 238) (t := 0) (n := 400) (c := 1) (s := 53) (r := some 238) hn16
  have hs19 := ss_step (k := 239) (t := 0) (n := 400) (c' := 1) (s := 54) (r := some 239) hs17 (by decide)
  have hn20 := nn_step (k := 239) (t := 0) (n := 400) (c := 1) (s := 54) (r := some 239) hn18
  have hs21 := ss_step (k := 240) (t := 0) (n := 400) (c' := 1) (s := 55) (r := some 240) hs19 (by decide)
  have hn22 := nn_step (k := 240) (t := 0) (n := 400) (c := 1) (s := 55) (r := some 240) hn20
  have hs23 := ss_step (k := 241) (t := 0) (n := 400) (c' := 1) (s := 56) (r := some 241) hs21 (by decide)
  have hn24 := nn_step (k := 241) (t := 0) (n := 400) (c := 1) (s := 56) (r := some 241) hn22
  have hs25 := ss_step (k := 242) (t := 0) (n := 400) (c' := 1) (s := 57) (r := some 242) hs23 (by decide)
  have hn26 := nn_step (k := 242) (t := 0) (n := 400) (c := 1) (s := 57) (r := some 242) hn24
  have hs27 := ss_step (k := 243) (t := 0) (n := 400) (c' := 1) (s := 58) (r := some 243) hs25 (by decide)
  have hn28 := nn_step (k := 243) (t := 0) (n := 400) (c := 1) (s := 58) (r := some 243) hn26
  have hs29 := ss_step (k := 244) (t := 0) (n := 400) (c' := 1) (s := 59) (r := some 244) hs27 (by decide)
  have hn30 := nn_step (k := 244) (t := 0) (n := 400) (c := 1) (s := 59) (r := some 244) hn28
  exact ⟨hs29, hn30⟩
theorem ck_2 (d : Nat) (h : Hp_) (K : Option Value → Hp_ → Prop) (hs : h_sh h 1 = some (22, 131)) (hn : ∀ a, 230 ≤ a → a < 300 → h_sh h a = none) (k : AW (m_X12_init (d + 1) 100 288204) 45 272282 378 [(0, .ref 1)] [] (CC_2 h) K) : AW (m_X12_init (d + 1) 100 288204) 30 244832 248 [(0, .ref 1)] [] h K := by
  refine aw_aload_n (i := 0) rfl d_X12_init_248 0 rfl ?_
  refine aw_sipush (v := 1800) d_X12_init_249 is_1800 ?_
  refine aw_newa (t := 0) (atype := .int) 230 1800 (by decide) rfl tw_51 (hn 230 (by decide) (by decide)) (by decide) xs0 (by decide +kernel) (by decide +kernel) (by decide +kernel) (show 30 + 1 ≤ 100 from by decide +kernel) (show 244832 + 1800 ≤ 288204 from by decide +kernel) d_X12_init_252 ?_
  refine aw_putrF (k0 := 41) kc_12 (ss_n hs (by decide)) (Nat.le_of_ble_eq_true rfl) tw_1783 d_X12_init_254 rfl rfl rfl rfl ?_
  have hs1 := ss_step (k := 230) (t := 0) (n := 1800) (c' := 1) (s := 41) (r := some 230) hs (by decide)
  have hn2 := nn_step (k := 230) (t := 0) (n := 1800) (c := 1) (s := 41) (r := some 230) hn
  refine aw_aload_n (i := 0) rfl d_X12_init_257 0 rfl ?_
  refine aw_sipush (v := 22400) d_X12_init_258 is_22400 ?_
  refine aw_newa (t := 0) (atype := .int) 231 22400 (by decide) rfl tw_51 (hn2 231 (by decide) (by decide)) (by decide) xs0 (by decide +kernel) (by decide +kernel) (by decide +kernel) (show 31 + 1 ≤ 100 from by decide +kernel) (show 246632 + 22400 ≤ 288204 from by decide +kernel) d_X12_init_261 ?_
  refine aw_putrF (k0 := 45) kc_12 (ss_n hs1 (by decide)) (Nat.le_of_ble_eq_true rfl) tw_1787 d_X12_init_263 rfl rfl rfl rfl ?_
  have hs3 := ss_step (k := 231) (t := 0) (n := 22400) (c' := 1) (s := 45) (r := some 231) hs1 (by decide)
  have hn4 := nn_step (k := 231) (t := 0) (n := 22400) (c := 1) (s := 45) (r := some 231) hn2
  refine aw_aload_n (i := 0) rfl d_X12_init_266 0 rfl ?_
  refine aw_bipush (v := 40) d_X12_init_267 ib_40 ?_
  refine aw_newa (t := 0) (atype := .int) 232 40 (by decide) rfl tw_51 (hn4 232 (by decide) (by decide)) (by decide) xs0 (by decide +kernel) (by decide +kernel) (by decide +kernel) (show 32 + 1 ≤ 100 from by decide +kernel) (show 269032 + 40 ≤ 288204 from by decide +kernel) d_X12_init_269 ?_
  refine aw_putrF (k0 := 46) kc_12 (ss_n hs3 (by decide)) (Nat.le_of_ble_eq_true rfl) tw_1788 d_X12_init_271 rfl rfl rfl rfl ?_
  have hs5 := ss_step (k := 232) (t := 0) (n := 40) (c' := 1) (s := 46) (r := some 232) hs3 (by decide)
  have hn6 := nn_step (k := 232) (t := 0) (n := 40) (c := 1) (s := 46) (r := some 232) hn4
  refine aw_aload_n (i := 0) rfl d_X12_init_274 0 rfl ?_
  refine aw_bipush (v := 40) d_X12_init_275 ib_40 ?_
  refine aw_newa (t := 0) (atype := .int) 233 40 (by decide) rfl tw_51 (hn6 233 (by decide) (by decide)) (by decide) xs0 (by decide +kernel) (by decide +kernel) (by decide +kernel) (show 33 + 1 ≤ 100 from by decide +kernel) (show 269072 + 40 ≤ 288204 from by decide +kernel) d_X12_init_277 ?_
  refine aw_putrF (k0 := 47) kc_12 (ss_n hs5 (by decide)) (Nat.le_of_ble_eq_true rfl) tw_1789 d_X12_init_279 rfl rfl rfl rfl ?_
  have hs7 := ss_step (k := 233) (t := 0) (n := 40) (c' := 1) (s := 47) (r := some 233) hs5 (by decide)
  have hn8 := nn_step (k := 233) (t := 0) (n := 40) (c := 1) (s := 47) (r := some 233) hn6
  refine aw_aload_n (i := 0) rfl d_X12_init_282 0 rfl ?_
  refine aw_bipush (v := 40) d_X12_init_283 ib_40 ?_
  refine aw_newa (t := 0) (atype := .int) 234 40 (by decide) rfl tw_51 (hn8 234 (by decide) (by decide)) (by decide) xs0 (by decide +kernel) (by decide +kernel) (by decide +kernel) (show 34 + 1 ≤ 100 from by decide +kernel) (show 269112 + 40 ≤ 288204 from by decide +kernel) d_X12_init_285 ?_
  refine aw_putrF (k0 := 48) kc_12 (ss_n hs7 (by decide)) (Nat.le_of_ble_eq_true rfl) tw_1790 d_X12_init_287 rfl rfl rfl rfl ?_
  have hs9 := ss_step (k := 234) (t := 0) (n := 40) (c' := 1) (s := 48) (r := some 234) hs7 (by decide)
  have hn10 := nn_step (k := 234) (t := 0) (n := 40) (c := 1) (s := 48) (r := some 234) hn8
  refine aw_aload_n (i := 0) rfl d_X12_init_290 0 rfl ?_
  refine aw_iconst (v := 2) d_X12_init_291 ic_2 ?_
  refine aw_newa (t := 0) (atype := .int) 235 2 (by decide) rfl tw_51 (hn10 235 (by decide) (by decide)) (by decide) xs0 (by decide +kernel) (by decide +kernel) (by decide +kernel) (show 35 + 1 ≤ 100 from by decide +kernel) (show 269152 + 2 ≤ 288204 from by decide +kernel) d_X12_init_292 ?_
  refine aw_putrF (k0 := 49) kc_12 (ss_n hs9 (by decide)) (Nat.le_of_ble_eq_true rfl) tw_1791 d_X12_init_294 rfl rfl rfl rfl ?_
  have hs11 := ss_step (k := 235) (t := 0) (n := 2) (c' := 1) (s := 49) (r := some 235) hs9 (by decide)
  have hn12 := nn_step (k := 235) (t := 0) (n := 2) (c := 1) (s := 49) (r := some 235) hn10
  refine aw_aload_n (i := 0) rfl d_X12_init_297 0 rfl ?_
  refine aw_sipush (v := 128) d_X12_init_298 is_128 ?_
  refine aw_newa (t := 0) (atype := .int) 236 128 (by decide) rfl tw_51 (hn12 236 (by decide) (by decide)) (by decide) xs0 (by decide +kernel) (by decide +kernel) (by decide +kernel) (show 36 + 1 ≤ 100 from by decide +kernel) (show 269154 + 128 ≤ 288204 from by decide +kernel) d_X12_init_301 ?_
  refine aw_putrF (k0 := 50) kc_12 (ss_n hs11 (by decide)) (Nat.le_of_ble_eq_true rfl) tw_1792 d_X12_init_303 rfl rfl rfl rfl ?_
  have hs13 := ss_step (k := 236) (t := 0) (n := 128) (c' := 1) (s := 50) (r := some 236) hs11 (by decide)
  have hn14 := nn_step (k := 236) (t := 0) (n := 128) (c := 1) (s := 50) (r := some 236) hn12
  refine aw_aload_n (i := 0) rfl d_X12_init_306 0 rfl ?_
  refine aw_sipush (v := 200) d_X12_init_307 is_200 ?_
  refine aw_newa (t := 0) (atype := .int) 237 200 (by decide) rfl tw_51 (hn14 237 (by decide) (by decide)) (by decide) xs0 (by decide +kernel) (by decide +kernel) (by decide +kernel) (show 37 + 1 ≤ 100 from by decide +kernel) (show 269282 + 200 ≤ 288204 from by decide +kernel) d_X12_init_310 ?_
  refine aw_putrF (k0 := 51) kc_12 (ss_n hs13 (by decide)) (Nat.le_of_ble_eq_true rfl) tw_1793 d_X12_init_312 rfl rfl rfl rfl ?_
  have hs15 := ss_step (k := 237) (t := 0) (n := 200) (c' := 1) (s := 51) (r := some 237) hs13 (by decide)
  have hn16 := nn_step (k := 237) (t := 0) (n := 200) (c := 1) (s := 51) (r := some 237) hn14
  refine aw_aload_n (i := 0) rfl d_X12_init_315 0 rfl ?_
  refine aw_sipush (v := 400) d_X12_init_316 is_400 ?_
  refine aw_newa (t := 0) (atype := .int) 238 400 (by decide) rfl tw_51 (hn16 238 (by decide) (by decide)) (by decide) xs0 (by decide +kernel) (by decide +kernel) (by decide +kernel) (show 38 + 1 ≤ 100 from by decide +kernel) (show 269482 + 400 ≤ 288204 from by decide +kernel) d_X12_init_319 ?_
  refine aw_putrF (k0 := 53) kc_12 (ss_n hs15 (by decide)) (Nat.le_of_ble_eq_true rfl) tw_1795 d_X12_init_321 rfl rfl rfl rfl ?_
  have hs17 := ss_step (k := 238) (t := 0) (n := 400) (c' := 1) (s := 53) (r := some 238) hs15 (by decide)
  have hn18 := nn_step (k := 238) (t := 0) (n := 400) (c := 1) (s := 53) (r := some 238) hn16
  refine aw_aload_n (i := 0) rfl d_X12_init_324 0 rfl ?_
  refine aw_sipush (v := 400) d_X12_init_325 is_400 ?_
  refine aw_newa (t := 0) (atype := .int) 239 400 (by decide) rfl tw_51 (hn18 239 (by decide) (by decide)) (by decide) xs0 (by decide +kernel) (by decide +kernel) (by decide +kernel) (show 39 + 1 ≤ 100 from by decide +kernel) (show 269882 + 400 ≤ 288204 from by decide +kernel) d_X12_init_328 ?_
  refine aw_putrF (k0 := 54) kc_12 (ss_n hs17 (by decide)) (Nat.le_of_ble_eq_true rfl) tw_1796 d_X12_init_330 rfl rfl rfl rfl ?_
  have hs19 := ss_step (k := 239) (t := 0) (n := 400) (c' := 1) (s := 54) (r := some 239) hs17 (by decide)
  have hn20 := nn_step (k := 239) (t := 0) (n := 400) (c := 1) (s := 54) (r := some 239) hn18
  refine aw_aload_n (i := 0) rfl d_X12_init_333 0 rfl ?_
  refine aw_sipush (v := 400) d_X12_init_334 is_400 ?_
  refine aw_newa (t := 0) (atype := .int) 240 400 (by decide) rfl tw_51 (hn20 240 (by decide) (by decide)) (by decide) xs0 (by decide +kernel) (by decide +kernel) (by decide +kernel) (show 40 + 1 ≤ 100 from by decide +kernel) (show 270282 + 400 ≤ 288204 from by decide +kernel) d_X12_init_337 ?_
  refine aw_putrF (k0 := 55) kc_12 (ss_n hs19 (by decide)) (Nat.le_of_ble_eq_true rfl) tw_1797 d_X12_init_339 rfl rfl rfl rfl ?_
  have hs21 := ss_step (k := 240) (t := 0) (n := 400) (c' := 1) (s := 55) (r := some 240) hs19 (by decide)
  have hn22 := nn_step (k := 240) (t := 0) (n := 400) (c := 1) (s := 55) (r := some 240) hn20
  refine aw_aload_n (i := 0) rfl d_X12_init_342 0 rfl ?_
  refine aw_sipush (v := 400) d_X12_init_343 is_400 ?_
  refine aw_newa (t := 0) (atype := .int) 241 400 (by decide) rfl tw_51 (hn22 241 (by decide) (by decide)) (by decide) xs0 (by decide +kernel) (by decide +kernel) (by decide +kernel) (show 41 + 1 ≤ 100 from by decide +kernel) (show 270682 + 400 ≤ 288204 from by decide +kernel) d_X12_init_346 ?_
  refine aw_putrF (k0 := 56) kc_12 (ss_n hs21 (by decide)) (Nat.le_of_ble_eq_true rfl) tw_1798 d_X12_init_348 rfl rfl rfl rfl ?_
  have hs23 := ss_step (k := 241) (t := 0) (n := 400) (c' := 1) (s := 56) (r := some 241) hs21 (by decide)
  have hn24 := nn_step (k := 241) (t := 0) (n := 400) (c := 1) (s := 56) (r := some 241) hn22
  refine aw_aload_n (i := 0) rfl d_X12_init_351 0 rfl ?_
  refine aw_sipush (v := 400) d_X12_init_352 is_400 ?_
  refine aw_newa (t := 0) (atype := .int) 242 400 (by decide) rfl tw_51 (hn24 242 (by decide) (by decide)) (by decide) xs0 (by decide +kernel) (by decide +kernel) (by decide +kernel) (show 42 + 1 ≤ 100 from by decide +kernel) (show 271082 + 400 ≤ 288204 from by decide +kernel) d_X12_init_355 ?_
  refine aw_putrF (k0 := 57) kc_12 (ss_n hs23 (by decide)) (Nat.le_of_ble_eq_true rfl) tw_1799 d_X12_init_357 rfl rfl rfl rfl ?_
  have hs25 := ss_step (k := 242) (t := 0) (n := 400) (c' := 1) (s := 57) (r := some 242) hs23 (by decide)
  have hn26 := nn_step (k := 242) (t := 0) (n := 400) (c := 1) (s := 57) (r := some 242) hn24
  refine aw_aload_n (i := 0) rfl d_X12_init_360 0 rfl ?_
  refine aw_sipush (v := 400) d_X12_init_361 is_400 ?_
  refine aw_newa (t := 0) (atype := .int) 243 400 (by decide) rfl tw_51 (hn26 243 (by decide) (by decide)) (by decide) xs0 (by decide +kernel) (by decide +kernel) (by decide +kernel) (show 43 + 1 ≤ 100 from by decide +kernel) (show 271482 + 400 ≤ 288204 from by decide +kernel) d_X12_init_364 ?_
  refine aw_putrF (k0 := 58) kc_12 (ss_n hs25 (by decide)) (Nat.le_of_ble_eq_true rfl) tw_1800 d_X12_init_366 rfl rfl rfl rfl ?_
  have hs27 := ss_step (k := 243) (t := 0) (n := 400) (c' := 1) (s := 58) (r := some 243) hs25 (by decide)
  have hn28 := nn_step (k := 243) (t := 0) (n := 400) (c := 1) (s := 58) (r := some 243) hn26
  refine aw_aload_n (i := 0) rfl d_X12_init_369 0 rfl ?_
  refine aw_sipush (v := 400) d_X12_init_370 is_400 ?_
  refine aw_newa (t := 0) (atype := .int) 244 400 (by decide) rfl tw_51 (hn28 244 (by decide) (by decide)) (by decide) xs0 (by decide +kernel) (by decide +kernel) (by decide +kernel) (show 44 + 1 ≤ 100 from by decide +kernel) (show 271882 + 400 ≤ 288204 from by decide +kernel) d_X12_init_373 ?_
  refine aw_putrF (k0 := 59) kc_12 (ss_n hs27 (by decide)) (Nat.le_of_ble_eq_true rfl) tw_1801 d_X12_init_375 rfl rfl rfl rfl ?_
  have hs29 := ss_step (k := 244) (t := 0) (n := 400) (c' := 1) (s := 59) (r := some 244) hs27 (by decide)
  have hn30 := nn_step (k := 244) (t := 0) (n := 400) (c := 1) (s := 59) (r := some 244) hn28
  exact k
noncomputable def CC_3 (h : Hp_) : Hp_ := h_rm (h_nw (h_rm (h_nw (h_rm (h_nw (h_rm (h_nw (h_rm (h_nw (h_rm (h_nw (h_rm (h_nw (h_rm (h_nw (h_rm (h_nw (h_rm (h_nw (h_rm (h_nw (h_rm (h_nw (h_rm (h_nw (h_rm (h_nw (h_rm (h_nw h 245 0 200) 1 60 (some 245)) 246 0 200) 1 61 (some 246)) 247 0 200) 1 62 (some 247)) 248 1 12) 1 65 (some 248)) 249 0 80) 1 66 (some 249)) 250 0 80) 1 67 (some 250)) 251 0 80) 1 68 (some 251)) 252 0 80) 1 69 (some 252)) 253 0 80) 1 70 (some 253)) 254 1 80) 1 71 (some 254)) 255 0 300) 1 72 (some 255)) 256 0 300) 1 73 (some 256)) 257 0 300) 1 74 (some 257)) 258 0 300) 1 75 (some 258)) 259 0 300) 1 76 (some 259)
theorem cf_3 (h : Hp_) (hs : h_sh h 1 = some (22, 131)) (hn : ∀ a, 245 ≤ a → a < 300 → h_sh h a = none) : h_sh (CC_3 h) 1 = some (22, 131) ∧ (∀ a, 260 ≤ a → a < 300 → h_sh (CC_3 h) a = none) := by
  have hs1 := ss_step (k := 245) (t := 0) (n := 200) (c' := 1) (s := 60) (r := some 245) hs (by decide)
  have hn2 := nn_step (k := 245) (t := 0) (n := 200) (c := 1) (s := 60) (r := some 245) hn
  have hs3 := ss_step (k := 246) (t := 0) (n := 200) (c' := 1) (s := 61) (r := some 246) hs1 (by decide)
  have hn4 := nn_step (k := 246) (t := 0) (n := 200) (c := 1) (s := 61) (r := some 246) hn2
  have hs5 := ss_step (k := 247) (t := 0) (n := 200) (c' := 1) (s := 62) (r := some 247) hs3 (by decide)
  have hn6 := nn_step (k := 247) (t := 0) (n := 200) (c := 1) (s := 62) (r := some 247) hn4
  have hs7 := ss_step (k := 248) (t := 1) (n := 12) (c' := 1) (s := 65) (r := some 248) hs5 (by decide)
  have hn8 := nn_step (k := 248) (t := 1) (n := 12) (c := 1) (s := 65) (r := some 248) hn6
  have hs9 := ss_step (k := 249) (t := 0) (n := 80) (c' := 1) (s := 66) (r := some 249) hs7 (by decide)
  have hn10 := nn_step (k := 249) (t := 0) (n := 80) (c := 1) (s := 66) (r := some 249) hn8
  have hs11 := ss_step (k := 250) (t := 0) (n := 80) (c' := 1) (s := 67) (r := some 250) hs9 (by decide)
  have hn12 := nn_step (k := 250) (t := 0) (n := 80) (c := 1) (s := 67) (r := some 250) hn10
  have hs13 := ss_step (k := 251) (t := 0) (n := 80) (c' := 1) (s := 68) (r := some 251) hs11 (by decide)
  have hn14 := nn_step (k := 251) (t := 0) (n := 80) (c := 1) (s := 68) (r := some 251) hn12
  have hs15 := ss_step (k := 252) (t := 0) (n := 80) (c' := 1) (s := 69) (r := some 252) hs13 (by decide)
  have hn16 := nn_step (k := 252) (t := 0) (n := 80) (c := 1) (s := 69) (r := some 252) hn14
  have hs17 := ss_step (k := 253) (t := 0) (n := 80) (c' := 1) (s := 70) (r := some 253) hs15 (by decide)
  have hn18 := nn_step (k := 253) (t := 0) (n := 80) (c := 1) (s := 70) (r := some 253) hn16
  have hs19 := ss_step (k := 254) (t := 1) (n := 80) (c' := 1) (s := 71) (r := some 254) hs17 (by decide)
  have hn20 := nn_step (k := 254) (t := 1) (n := 80) (c := 1) (s := 71) (r := some 254) hn18
  have hs21 := ss_step (k := 255) (t := 0) (n := 300) (c' := 1) (s := 72) (r := some 255) hs19 (by decide)
  have hn22 := nn_step (k := 255) (t := 0) (n := 300) (c := 1) (s := 72) (r := some 255) hn20
  have hs23 := ss_step (k := 256) (t := 0) (n := 300) (c' := 1) (s := 73) (r := some 256) hs21 (by decide)
  have hn24 := nn_step (k := 256) (t := 0) (n := 300) (c := 1) (s := 73) (r := some 256) hn22
  have hs25 := ss_step (k := 257) (t := 0) (n := 300) (c' := 1) (s := 74) (r := some 257) hs23 (by decide)
  have hn26 := nn_step (k := 257) (t := 0) (n := 300) (c := 1) (s := 74) (r := some 257) hn24
  have hs27 := ss_step (k := 258) (t := 0) (n := 300) (c' := 1) (s := 75) (r := some 258) hs25 (by decide)
  have hn28 := nn_step (k := 258) (t := 0) (n := 300) (c := 1) (s := 75) (r := some 258) hn26
  have hs29 := ss_step (k := 259) (t := 0) (n := 300) (c' := 1) (s := 76) (r := some 259) hs27 (by decide)
  have hn30 := nn_step (k := 259) (t := 0) (n := 300) (c := 1) (s := 76) (r := some 259) hn28
  exact ⟨hs29, hn30⟩
theorem ck_3 (d : Nat) (h : Hp_) (K : Option Value → Hp_ → Prop) (hs : h_sh h 1 = some (22, 131)) (hn : ∀ a, 245 ≤ a → a < 300 → h_sh h a = none) (k : AW (m_X12_init (d + 1) 100 288204) 60 274874 506 [(0, .ref 1)] [] (CC_3 h) K) : AW (m_X12_init (d + 1) 100 288204) 45 272282 378 [(0, .ref 1)] [] h K := by
  refine aw_aload_n (i := 0) rfl d_X12_init_378 0 rfl ?_
  refine aw_sipush (v := 200) d_X12_init_379 is_200 ?_
  refine aw_newa (t := 0) (atype := .int) 245 200 (by decide) rfl tw_51 (hn 245 (by decide) (by decide)) (by decide) xs0 (by decide +kernel) (by decide +kernel) (by decide +kernel) (show 45 + 1 ≤ 100 from by decide +kernel) (show 272282 + 200 ≤ 288204 from by decide +kernel) d_X12_init_382 ?_
  refine aw_putrF (k0 := 60) kc_12 (ss_n hs (by decide)) (Nat.le_of_ble_eq_true rfl) tw_1802 d_X12_init_384 rfl rfl rfl rfl ?_
  have hs1 := ss_step (k := 245) (t := 0) (n := 200) (c' := 1) (s := 60) (r := some 245) hs (by decide)
  have hn2 := nn_step (k := 245) (t := 0) (n := 200) (c := 1) (s := 60) (r := some 245) hn
  refine aw_aload_n (i := 0) rfl d_X12_init_387 0 rfl ?_
  refine aw_sipush (v := 200) d_X12_init_388 is_200 ?_
  refine aw_newa (t := 0) (atype := .int) 246 200 (by decide) rfl tw_51 (hn2 246 (by decide) (by decide)) (by decide) xs0 (by decide +kernel) (by decide +kernel) (by decide +kernel) (show 46 + 1 ≤ 100 from by decide +kernel) (show 272482 + 200 ≤ 288204 from by decide +kernel) d_X12_init_391 ?_
  refine aw_putrF (k0 := 61) kc_12 (ss_n hs1 (by decide)) (Nat.le_of_ble_eq_true rfl) tw_1803 d_X12_init_393 rfl rfl rfl rfl ?_
  have hs3 := ss_step (k := 246) (t := 0) (n := 200) (c' := 1) (s := 61) (r := some 246) hs1 (by decide)
  have hn4 := nn_step (k := 246) (t := 0) (n := 200) (c := 1) (s := 61) (r := some 246) hn2
  refine aw_aload_n (i := 0) rfl d_X12_init_396 0 rfl ?_
  refine aw_sipush (v := 200) d_X12_init_397 is_200 ?_
  refine aw_newa (t := 0) (atype := .int) 247 200 (by decide) rfl tw_51 (hn4 247 (by decide) (by decide)) (by decide) xs0 (by decide +kernel) (by decide +kernel) (by decide +kernel) (show 47 + 1 ≤ 100 from by decide +kernel) (show 272682 + 200 ≤ 288204 from by decide +kernel) d_X12_init_400 ?_
  refine aw_putrF (k0 := 62) kc_12 (ss_n hs3 (by decide)) (Nat.le_of_ble_eq_true rfl) tw_1804 d_X12_init_402 rfl rfl rfl rfl ?_
  have hs5 := ss_step (k := 247) (t := 0) (n := 200) (c' := 1) (s := 62) (r := some 247) hs3 (by decide)
  have hn6 := nn_step (k := 247) (t := 0) (n := 200) (c := 1) (s := 62) (r := some 247) hn4
  refine aw_aload_n (i := 0) rfl d_X12_init_405 0 rfl ?_
  refine aw_bipush (v := 12) d_X12_init_406 ib_12 ?_
  refine aw_newa (t := 1) (atype := .boolean) 248 12 (by decide) rfl tw_252 (hn6 248 (by decide) (by decide)) (by decide) xs0 (by decide +kernel) (by decide +kernel) (by decide +kernel) (show 48 + 1 ≤ 100 from by decide +kernel) (show 272882 + 12 ≤ 288204 from by decide +kernel) d_X12_init_408 ?_
  refine aw_putrF (k0 := 65) kc_12 (ss_n hs5 (by decide)) (Nat.le_of_ble_eq_true rfl) tw_1807 d_X12_init_410 rfl rfl rfl rfl ?_
  have hs7 := ss_step (k := 248) (t := 1) (n := 12) (c' := 1) (s := 65) (r := some 248) hs5 (by decide)
  have hn8 := nn_step (k := 248) (t := 1) (n := 12) (c := 1) (s := 65) (r := some 248) hn6
  refine aw_aload_n (i := 0) rfl d_X12_init_413 0 rfl ?_
  refine aw_bipush (v := 80) d_X12_init_414 ib_80 ?_
  refine aw_newa (t := 0) (atype := .int) 249 80 (by decide) rfl tw_51 (hn8 249 (by decide) (by decide)) (by decide) xs0 (by decide +kernel) (by decide +kernel) (by decide +kernel) (show 49 + 1 ≤ 100 from by decide +kernel) (show 272894 + 80 ≤ 288204 from by decide +kernel) d_X12_init_416 ?_
  refine aw_putrF (k0 := 66) kc_12 (ss_n hs7 (by decide)) (Nat.le_of_ble_eq_true rfl) tw_1808 d_X12_init_418 rfl rfl rfl rfl ?_
  have hs9 := ss_step (k := 249) (t := 0) (n := 80) (c' := 1) (s := 66) (r := some 249) hs7 (by decide)
  have hn10 := nn_step (k := 249) (t := 0) (n := 80) (c := 1) (s := 66) (r := some 249) hn8
  refine aw_aload_n (i := 0) rfl d_X12_init_421 0 rfl ?_
  refine aw_bipush (v := 80) d_X12_init_422 ib_80 ?_
  refine aw_newa (t := 0) (atype := .int) 250 80 (by decide) rfl tw_51 (hn10 250 (by decide) (by decide)) (by decide) xs0 (by decide +kernel) (by decide +kernel) (by decide +kernel) (show 50 + 1 ≤ 100 from by decide +kernel) (show 272974 + 80 ≤ 288204 from by decide +kernel) d_X12_init_424 ?_
  refine aw_putrF (k0 := 67) kc_12 (ss_n hs9 (by decide)) (Nat.le_of_ble_eq_true rfl) tw_1809 d_X12_init_426 rfl rfl rfl rfl ?_
  have hs11 := ss_step (k := 250) (t := 0) (n := 80) (c' := 1) (s := 67) (r := some 250) hs9 (by decide)
  have hn12 := nn_step (k := 250) (t := 0) (n := 80) (c := 1) (s := 67) (r := some 250) hn10
  refine aw_aload_n (i := 0) rfl d_X12_init_429 0 rfl ?_
  refine aw_bipush (v := 80) d_X12_init_430 ib_80 ?_
  refine aw_newa (t := 0) (atype := .int) 251 80 (by decide) rfl tw_51 (hn12 251 (by decide) (by decide)) (by decide) xs0 (by decide +kernel) (by decide +kernel) (by decide +kernel) (show 51 + 1 ≤ 100 from by decide +kernel) (show 273054 + 80 ≤ 288204 from by decide +kernel) d_X12_init_432 ?_
  refine aw_putrF (k0 := 68) kc_12 (ss_n hs11 (by decide)) (Nat.le_of_ble_eq_true rfl) tw_1810 d_X12_init_434 rfl rfl rfl rfl ?_
  have hs13 := ss_step (k := 251) (t := 0) (n := 80) (c' := 1) (s := 68) (r := some 251) hs11 (by decide)
  have hn14 := nn_step (k := 251) (t := 0) (n := 80) (c := 1) (s := 68) (r := some 251) hn12
  refine aw_aload_n (i := 0) rfl d_X12_init_437 0 rfl ?_
  refine aw_bipush (v := 80) d_X12_init_438 ib_80 ?_
  refine aw_newa (t := 0) (atype := .int) 252 80 (by decide) rfl tw_51 (hn14 252 (by decide) (by decide)) (by decide) xs0 (by decide +kernel) (by decide +kernel) (by decide +kernel) (show 52 + 1 ≤ 100 from by decide +kernel) (show 273134 + 80 ≤ 288204 from by decide +kernel) d_X12_init_440 ?_
  refine aw_putrF (k0 := 69) kc_12 (ss_n hs13 (by decide)) (Nat.le_of_ble_eq_true rfl) tw_1811 d_X12_init_442 rfl rfl rfl rfl ?_
  have hs15 := ss_step (k := 252) (t := 0) (n := 80) (c' := 1) (s := 69) (r := some 252) hs13 (by decide)
  have hn16 := nn_step (k := 252) (t := 0) (n := 80) (c := 1) (s := 69) (r := some 252) hn14
  refine aw_aload_n (i := 0) rfl d_X12_init_445 0 rfl ?_
  refine aw_bipush (v := 80) d_X12_init_446 ib_80 ?_
  refine aw_newa (t := 0) (atype := .int) 253 80 (by decide) rfl tw_51 (hn16 253 (by decide) (by decide)) (by decide) xs0 (by decide +kernel) (by decide +kernel) (by decide +kernel) (show 53 + 1 ≤ 100 from by decide +kernel) (show 273214 + 80 ≤ 288204 from by decide +kernel) d_X12_init_448 ?_
  refine aw_putrF (k0 := 70) kc_12 (ss_n hs15 (by decide)) (Nat.le_of_ble_eq_true rfl) tw_1812 d_X12_init_450 rfl rfl rfl rfl ?_
  have hs17 := ss_step (k := 253) (t := 0) (n := 80) (c' := 1) (s := 70) (r := some 253) hs15 (by decide)
  have hn18 := nn_step (k := 253) (t := 0) (n := 80) (c := 1) (s := 70) (r := some 253) hn16
  refine aw_aload_n (i := 0) rfl d_X12_init_453 0 rfl ?_
  refine aw_bipush (v := 80) d_X12_init_454 ib_80 ?_
  refine aw_newa (t := 1) (atype := .boolean) 254 80 (by decide) rfl tw_252 (hn18 254 (by decide) (by decide)) (by decide) xs0 (by decide +kernel) (by decide +kernel) (by decide +kernel) (show 54 + 1 ≤ 100 from by decide +kernel) (show 273294 + 80 ≤ 288204 from by decide +kernel) d_X12_init_456 ?_
  refine aw_putrF (k0 := 71) kc_12 (ss_n hs17 (by decide)) (Nat.le_of_ble_eq_true rfl) tw_1813 d_X12_init_458 rfl rfl rfl rfl ?_
  have hs19 := ss_step (k := 254) (t := 1) (n := 80) (c' := 1) (s := 71) (r := some 254) hs17 (by decide)
  have hn20 := nn_step (k := 254) (t := 1) (n := 80) (c := 1) (s := 71) (r := some 254) hn18
  refine aw_aload_n (i := 0) rfl d_X12_init_461 0 rfl ?_
  refine aw_sipush (v := 300) d_X12_init_462 is_300 ?_
  refine aw_newa (t := 0) (atype := .int) 255 300 (by decide) rfl tw_51 (hn20 255 (by decide) (by decide)) (by decide) xs0 (by decide +kernel) (by decide +kernel) (by decide +kernel) (show 55 + 1 ≤ 100 from by decide +kernel) (show 273374 + 300 ≤ 288204 from by decide +kernel) d_X12_init_465 ?_
  refine aw_putrF (k0 := 72) kc_12 (ss_n hs19 (by decide)) (Nat.le_of_ble_eq_true rfl) tw_1814 d_X12_init_467 rfl rfl rfl rfl ?_
  have hs21 := ss_step (k := 255) (t := 0) (n := 300) (c' := 1) (s := 72) (r := some 255) hs19 (by decide)
  have hn22 := nn_step (k := 255) (t := 0) (n := 300) (c := 1) (s := 72) (r := some 255) hn20
  refine aw_aload_n (i := 0) rfl d_X12_init_470 0 rfl ?_
  refine aw_sipush (v := 300) d_X12_init_471 is_300 ?_
  refine aw_newa (t := 0) (atype := .int) 256 300 (by decide) rfl tw_51 (hn22 256 (by decide) (by decide)) (by decide) xs0 (by decide +kernel) (by decide +kernel) (by decide +kernel) (show 56 + 1 ≤ 100 from by decide +kernel) (show 273674 + 300 ≤ 288204 from by decide +kernel) d_X12_init_474 ?_
  refine aw_putrF (k0 := 73) kc_12 (ss_n hs21 (by decide)) (Nat.le_of_ble_eq_true rfl) tw_1815 d_X12_init_476 rfl rfl rfl rfl ?_
  have hs23 := ss_step (k := 256) (t := 0) (n := 300) (c' := 1) (s := 73) (r := some 256) hs21 (by decide)
  have hn24 := nn_step (k := 256) (t := 0) (n := 300) (c := 1) (s := 73) (r := some 256) hn22
  refine aw_aload_n (i := 0) rfl d_X12_init_479 0 rfl ?_
  refine aw_sipush (v := 300) d_X12_init_480 is_300 ?_
  refine aw_newa (t := 0) (atype := .int) 257 300 (by decide) rfl tw_51 (hn24 257 (by decide) (by decide)) (by decide) xs0 (by decide +kernel) (by decide +kernel) (by decide +kernel) (show 57 + 1 ≤ 100 from by decide +kernel) (show 273974 + 300 ≤ 288204 from by decide +kernel) d_X12_init_483 ?_
  refine aw_putrF (k0 := 74) kc_12 (ss_n hs23 (by decide)) (Nat.le_of_ble_eq_true rfl) tw_1816 d_X12_init_485 rfl rfl rfl rfl ?_
  have hs25 := ss_step (k := 257) (t := 0) (n := 300) (c' := 1) (s := 74) (r := some 257) hs23 (by decide)
  have hn26 := nn_step (k := 257) (t := 0) (n := 300) (c := 1) (s := 74) (r := some 257) hn24
  refine aw_aload_n (i := 0) rfl d_X12_init_488 0 rfl ?_
  refine aw_sipush (v := 300) d_X12_init_489 is_300 ?_
  refine aw_newa (t := 0) (atype := .int) 258 300 (by decide) rfl tw_51 (hn26 258 (by decide) (by decide)) (by decide) xs0 (by decide +kernel) (by decide +kernel) (by decide +kernel) (show 58 + 1 ≤ 100 from by decide +kernel) (show 274274 + 300 ≤ 288204 from by decide +kernel) d_X12_init_492 ?_
  refine aw_putrF (k0 := 75) kc_12 (ss_n hs25 (by decide)) (Nat.le_of_ble_eq_true rfl) tw_1817 d_X12_init_494 rfl rfl rfl rfl ?_
  have hs27 := ss_step (k := 258) (t := 0) (n := 300) (c' := 1) (s := 75) (r := some 258) hs25 (by decide)
  have hn28 := nn_step (k := 258) (t := 0) (n := 300) (c := 1) (s := 75) (r := some 258) hn26
  refine aw_aload_n (i := 0) rfl d_X12_init_497 0 rfl ?_
  refine aw_sipush (v := 300) d_X12_init_498 is_300 ?_
  refine aw_newa (t := 0) (atype := .int) 259 300 (by decide) rfl tw_51 (hn28 259 (by decide) (by decide)) (by decide) xs0 (by decide +kernel) (by decide +kernel) (by decide +kernel) (show 59 + 1 ≤ 100 from by decide +kernel) (show 274574 + 300 ≤ 288204 from by decide +kernel) d_X12_init_501 ?_
  refine aw_putrF (k0 := 76) kc_12 (ss_n hs27 (by decide)) (Nat.le_of_ble_eq_true rfl) tw_1818 d_X12_init_503 rfl rfl rfl rfl ?_
  have hs29 := ss_step (k := 259) (t := 0) (n := 300) (c' := 1) (s := 76) (r := some 259) hs27 (by decide)
  have hn30 := nn_step (k := 259) (t := 0) (n := 300) (c := 1) (s := 76) (r := some 259) hn28
  exact k
noncomputable def CC_4 (h : Hp_) : Hp_ := h_rm (h_nw (h_rm (h_nw (h_rm (h_nw (h_rm (h_nw (h_rm (h_nw (h_rm (h_nw (h_rm (h_nw (h_rm (h_nw (h_rm (h_nw (h_rm (h_nw (h_rm (h_nw (h_rm (h_nw (h_rm (h_nw (h_rm (h_nw (h_rm (h_nw h 260 0 300) 1 77 (some 260)) 261 0 2700) 1 78 (some 261)) 262 0 30) 1 81 (some 262)) 263 0 30) 1 82 (some 263)) 264 0 10) 1 83 (some 264)) 265 0 8) 1 84 (some 265)) 266 0 200) 1 85 (some 266)) 267 0 200) 1 86 (some 267)) 268 0 200) 1 87 (some 268)) 269 0 200) 1 88 (some 269)) 270 1 200) 1 89 (some 270)) 271 0 16) 1 90 (some 271)) 272 1 16) 1 91 (some 272)) 273 0 180) 1 92 (some 273)) 274 0 180) 1 93 (some 274)
theorem cf_4 (h : Hp_) (hs : h_sh h 1 = some (22, 131)) (hn : ∀ a, 260 ≤ a → a < 300 → h_sh h a = none) : h_sh (CC_4 h) 1 = some (22, 131) ∧ (∀ a, 275 ≤ a → a < 300 → h_sh (CC_4 h) a = none) ∧ h_r (CC_4 h) 1 84 = some 265 ∧ h_sh (CC_4 h) 265 = some (0, 8) := by
  have hs1 := ss_step (k := 260) (t := 0) (n := 300) (c' := 1) (s := 77) (r := some 260) hs (by decide)
  have hn2 := nn_step (k := 260) (t := 0) (n := 300) (c := 1) (s := 77) (r := some 260) hn
  have hs3 := ss_step (k := 261) (t := 0) (n := 2700) (c' := 1) (s := 78) (r := some 261) hs1 (by decide)
  have hn4 := nn_step (k := 261) (t := 0) (n := 2700) (c := 1) (s := 78) (r := some 261) hn2
  have hs5 := ss_step (k := 262) (t := 0) (n := 30) (c' := 1) (s := 81) (r := some 262) hs3 (by decide)
  have hn6 := nn_step (k := 262) (t := 0) (n := 30) (c := 1) (s := 81) (r := some 262) hn4
  have hs7 := ss_step (k := 263) (t := 0) (n := 30) (c' := 1) (s := 82) (r := some 263) hs5 (by decide)
  have hn8 := nn_step (k := 263) (t := 0) (n := 30) (c := 1) (s := 82) (r := some 263) hn6
  have hs9 := ss_step (k := 264) (t := 0) (n := 10) (c' := 1) (s := 83) (r := some 264) hs7 (by decide)
  have hn10 := nn_step (k := 264) (t := 0) (n := 10) (c := 1) (s := 83) (r := some 264) hn8
  have hs11 := ss_step (k := 265) (t := 0) (n := 8) (c' := 1) (s := 84) (r := some 265) hs9 (by decide)
  have hn12 := nn_step (k := 265) (t := 0) (n := 8) (c := 1) (s := 84) (r := some 265) hn10
  have tr13 := rr_of hs11
  have ts14 := sh_of hs11
  have hs15 := ss_step (k := 266) (t := 0) (n := 200) (c' := 1) (s := 85) (r := some 266) hs11 (by decide)
  have hn16 := nn_step (k := 266) (t := 0) (n := 200) (c := 1) (s := 85) (r := some 266) hn12
  have tr17 := rr_step (k := 266) (t := 0) (n := 200) (c := 1) (s := 85) (r := some 266) tr13 (by decide) (by decide)
  have ts18 := ss_step (k := 266) (t := 0) (n := 200) (c' := 1) (s := 85) (r := some 266) ts14 (by decide)
  have hs19 := ss_step (k := 267) (t := 0) (n := 200) (c' := 1) (s := 86) (r := some 267) hs15 (by decide)
  have hn20 := nn_step (k := 267) (t := 0) (n := 200) (c := 1) (s := 86) (r := some 267) hn16
  have tr21 := rr_step (k := 267) (t := 0) (n := 200) (c := 1) (s := 86) (r := some 267) tr17 (by decide) (by decide)
  have ts22 := ss_step (k := 267) (t := 0) (n := 200) (c' := 1) (s := 86) (r := some 267) ts18 (by decide)
  have hs23 := ss_step (k := 268) (t := 0) (n := 200) (c' := 1) (s := 87) (r := some 268) hs19 (by decide)
  have hn24 := nn_step (k := 268) (t := 0) (n := 200) (c := 1) (s := 87) (r := some 268) hn20
  have tr25 := rr_step (k := 268) (t := 0) (n := 200) (c := 1) (s := 87) (r := some 268) tr21 (by decide) (by decide)
  have ts26 := ss_step (k := 268) (t := 0) (n := 200) (c' := 1) (s := 87) (r := some 268) ts22 (by decide)
  have hs27 := ss_step (k := 269) (t := 0) (n := 200) (c' := 1) (s := 88) (r := some 269) hs23 (by decide)
  have hn28 := nn_step (k := 269) (t := 0) (n := 200) (c := 1) (s := 88) (r := some 269) hn24
  have tr29 := rr_step (k := 269) (t := 0) (n := 200) (c := 1) (s := 88) (r := some 269) tr25 (by decide) (by decide)
  have ts30 := ss_step (k := 269) (t := 0) (n := 200) (c' := 1) (s := 88) (r := some 269) ts26 (by decide)
  have hs31 := ss_step (k := 270) (t := 1) (n := 200) (c' := 1) (s := 89) (r := some 270) hs27 (by decide)
  have hn32 := nn_step (k := 270) (t := 1) (n := 200) (c := 1) (s := 89) (r := some 270) hn28
  have tr33 := rr_step (k := 270) (t := 1) (n := 200) (c := 1) (s := 89) (r := some 270) tr29 (by decide) (by decide)
  have ts34 := ss_step (k := 270) (t := 1) (n := 200) (c' := 1) (s := 89) (r := some 270) ts30 (by decide)
  have hs35 := ss_step (k := 271) (t := 0) (n := 16) (c' := 1) (s := 90) (r := some 271) hs31 (by decide)
  have hn36 := nn_step (k := 271) (t := 0) (n := 16) (c := 1) (s := 90) (r := some 271) hn32
  have tr37 := rr_step (k := 271) (t := 0) (n := 16) (c := 1) (s := 90) (r := some 271) tr33 (by decide) (by decide)
  have ts38 := ss_step (k := 271) (t := 0) (n := 16) (c' := 1) (s := 90) (r := some 271) ts34 (by decide)
  have hs39 := ss_step (k := 272) (t := 1) (n := 16) (c' := 1) (s := 91) (r := some 272) hs35 (by decide)
  have hn40 := nn_step (k := 272) (t := 1) (n := 16) (c := 1) (s := 91) (r := some 272) hn36
  have tr41 := rr_step (k := 272) (t := 1) (n := 16) (c := 1) (s := 91) (r := some 272) tr37 (by decide) (by decide)
  have ts42 := ss_step (k := 272) (t := 1) (n := 16) (c' := 1) (s := 91) (r := some 272) ts38 (by decide)
  have hs43 := ss_step (k := 273) (t := 0) (n := 180) (c' := 1) (s := 92) (r := some 273) hs39 (by decide)
  have hn44 := nn_step (k := 273) (t := 0) (n := 180) (c := 1) (s := 92) (r := some 273) hn40
  have tr45 := rr_step (k := 273) (t := 0) (n := 180) (c := 1) (s := 92) (r := some 273) tr41 (by decide) (by decide)
  have ts46 := ss_step (k := 273) (t := 0) (n := 180) (c' := 1) (s := 92) (r := some 273) ts42 (by decide)
  have hs47 := ss_step (k := 274) (t := 0) (n := 180) (c' := 1) (s := 93) (r := some 274) hs43 (by decide)
  have hn48 := nn_step (k := 274) (t := 0) (n := 180) (c := 1) (s := 93) (r := some 274) hn44
  have tr49 := rr_step (k := 274) (t := 0) (n := 180) (c := 1) (s := 93) (r := some 274) tr45 (by decide) (by decide)
  have ts50 := ss_step (k := 274) (t := 0) (n := 180) (c' := 1) (s := 93) (r := some 274) ts46 (by decide)
  exact ⟨hs47, hn48, tr49, ts50⟩
theorem ck_4 (d : Nat) (h : Hp_) (K : Option Value → Hp_ → Prop) (hs : h_sh h 1 = some (22, 131)) (hn : ∀ a, 260 ≤ a → a < 300 → h_sh h a = none) (k : AW (m_X12_init (d + 1) 100 288204) 75 279344 635 [(0, .ref 1)] [] (CC_4 h) K) : AW (m_X12_init (d + 1) 100 288204) 60 274874 506 [(0, .ref 1)] [] h K := by
  refine aw_aload_n (i := 0) rfl d_X12_init_506 0 rfl ?_
  refine aw_sipush (v := 300) d_X12_init_507 is_300 ?_
  refine aw_newa (t := 0) (atype := .int) 260 300 (by decide) rfl tw_51 (hn 260 (by decide) (by decide)) (by decide) xs0 (by decide +kernel) (by decide +kernel) (by decide +kernel) (show 60 + 1 ≤ 100 from by decide +kernel) (show 274874 + 300 ≤ 288204 from by decide +kernel) d_X12_init_510 ?_
  refine aw_putrF (k0 := 77) kc_12 (ss_n hs (by decide)) (Nat.le_of_ble_eq_true rfl) tw_1819 d_X12_init_512 rfl rfl rfl rfl ?_
  have hs1 := ss_step (k := 260) (t := 0) (n := 300) (c' := 1) (s := 77) (r := some 260) hs (by decide)
  have hn2 := nn_step (k := 260) (t := 0) (n := 300) (c := 1) (s := 77) (r := some 260) hn
  refine aw_aload_n (i := 0) rfl d_X12_init_515 0 rfl ?_
  refine aw_sipush (v := 2700) d_X12_init_516 is_2700 ?_
  refine aw_newa (t := 0) (atype := .int) 261 2700 (by decide) rfl tw_51 (hn2 261 (by decide) (by decide)) (by decide) xs0 (by decide +kernel) (by decide +kernel) (by decide +kernel) (show 61 + 1 ≤ 100 from by decide +kernel) (show 275174 + 2700 ≤ 288204 from by decide +kernel) d_X12_init_519 ?_
  refine aw_putrF (k0 := 78) kc_12 (ss_n hs1 (by decide)) (Nat.le_of_ble_eq_true rfl) tw_1820 d_X12_init_521 rfl rfl rfl rfl ?_
  have hs3 := ss_step (k := 261) (t := 0) (n := 2700) (c' := 1) (s := 78) (r := some 261) hs1 (by decide)
  have hn4 := nn_step (k := 261) (t := 0) (n := 2700) (c := 1) (s := 78) (r := some 261) hn2
  refine aw_aload_n (i := 0) rfl d_X12_init_524 0 rfl ?_
  refine aw_bipush (v := 30) d_X12_init_525 ib_30 ?_
  refine aw_newa (t := 0) (atype := .int) 262 30 (by decide) rfl tw_51 (hn4 262 (by decide) (by decide)) (by decide) xs0 (by decide +kernel) (by decide +kernel) (by decide +kernel) (show 62 + 1 ≤ 100 from by decide +kernel) (show 277874 + 30 ≤ 288204 from by decide +kernel) d_X12_init_527 ?_
  refine aw_putrF (k0 := 81) kc_12 (ss_n hs3 (by decide)) (Nat.le_of_ble_eq_true rfl) tw_1823 d_X12_init_529 rfl rfl rfl rfl ?_
  have hs5 := ss_step (k := 262) (t := 0) (n := 30) (c' := 1) (s := 81) (r := some 262) hs3 (by decide)
  have hn6 := nn_step (k := 262) (t := 0) (n := 30) (c := 1) (s := 81) (r := some 262) hn4
  refine aw_aload_n (i := 0) rfl d_X12_init_532 0 rfl ?_
  refine aw_bipush (v := 30) d_X12_init_533 ib_30 ?_
  refine aw_newa (t := 0) (atype := .int) 263 30 (by decide) rfl tw_51 (hn6 263 (by decide) (by decide)) (by decide) xs0 (by decide +kernel) (by decide +kernel) (by decide +kernel) (show 63 + 1 ≤ 100 from by decide +kernel) (show 277904 + 30 ≤ 288204 from by decide +kernel) d_X12_init_535 ?_
  refine aw_putrF (k0 := 82) kc_12 (ss_n hs5 (by decide)) (Nat.le_of_ble_eq_true rfl) tw_1824 d_X12_init_537 rfl rfl rfl rfl ?_
  have hs7 := ss_step (k := 263) (t := 0) (n := 30) (c' := 1) (s := 82) (r := some 263) hs5 (by decide)
  have hn8 := nn_step (k := 263) (t := 0) (n := 30) (c := 1) (s := 82) (r := some 263) hn6
  refine aw_aload_n (i := 0) rfl d_X12_init_540 0 rfl ?_
  refine aw_bipush (v := 10) d_X12_init_541 ib_10 ?_
  refine aw_newa (t := 0) (atype := .int) 264 10 (by decide) rfl tw_51 (hn8 264 (by decide) (by decide)) (by decide) xs0 (by decide +kernel) (by decide +kernel) (by decide +kernel) (show 64 + 1 ≤ 100 from by decide +kernel) (show 277934 + 10 ≤ 288204 from by decide +kernel) d_X12_init_543 ?_
  refine aw_putrF (k0 := 83) kc_12 (ss_n hs7 (by decide)) (Nat.le_of_ble_eq_true rfl) tw_1825 d_X12_init_545 rfl rfl rfl rfl ?_
  have hs9 := ss_step (k := 264) (t := 0) (n := 10) (c' := 1) (s := 83) (r := some 264) hs7 (by decide)
  have hn10 := nn_step (k := 264) (t := 0) (n := 10) (c := 1) (s := 83) (r := some 264) hn8
  refine aw_aload_n (i := 0) rfl d_X12_init_548 0 rfl ?_
  refine aw_bipush (v := 8) d_X12_init_549 ib_8 ?_
  refine aw_newa (t := 0) (atype := .int) 265 8 (by decide) rfl tw_51 (hn10 265 (by decide) (by decide)) (by decide) xs0 (by decide +kernel) (by decide +kernel) (by decide +kernel) (show 65 + 1 ≤ 100 from by decide +kernel) (show 277944 + 8 ≤ 288204 from by decide +kernel) d_X12_init_551 ?_
  refine aw_putrF (k0 := 84) kc_12 (ss_n hs9 (by decide)) (Nat.le_of_ble_eq_true rfl) tw_1826 d_X12_init_553 rfl rfl rfl rfl ?_
  have hs11 := ss_step (k := 265) (t := 0) (n := 8) (c' := 1) (s := 84) (r := some 265) hs9 (by decide)
  have hn12 := nn_step (k := 265) (t := 0) (n := 8) (c := 1) (s := 84) (r := some 265) hn10
  have tr13 := rr_of hs11
  have ts14 := sh_of hs11
  refine aw_aload_n (i := 0) rfl d_X12_init_556 0 rfl ?_
  refine aw_sipush (v := 200) d_X12_init_557 is_200 ?_
  refine aw_newa (t := 0) (atype := .int) 266 200 (by decide) rfl tw_51 (hn12 266 (by decide) (by decide)) (by decide) xs0 (by decide +kernel) (by decide +kernel) (by decide +kernel) (show 66 + 1 ≤ 100 from by decide +kernel) (show 277952 + 200 ≤ 288204 from by decide +kernel) d_X12_init_560 ?_
  refine aw_putrF (k0 := 85) kc_12 (ss_n hs11 (by decide)) (Nat.le_of_ble_eq_true rfl) tw_1827 d_X12_init_562 rfl rfl rfl rfl ?_
  have hs15 := ss_step (k := 266) (t := 0) (n := 200) (c' := 1) (s := 85) (r := some 266) hs11 (by decide)
  have hn16 := nn_step (k := 266) (t := 0) (n := 200) (c := 1) (s := 85) (r := some 266) hn12
  have tr17 := rr_step (k := 266) (t := 0) (n := 200) (c := 1) (s := 85) (r := some 266) tr13 (by decide) (by decide)
  have ts18 := ss_step (k := 266) (t := 0) (n := 200) (c' := 1) (s := 85) (r := some 266) ts14 (by decide)
  refine aw_aload_n (i := 0) rfl d_X12_init_565 0 rfl ?_
  refine aw_sipush (v := 200) d_X12_init_566 is_200 ?_
  refine aw_newa (t := 0) (atype := .int) 267 200 (by decide) rfl tw_51 (hn16 267 (by decide) (by decide)) (by decide) xs0 (by decide +kernel) (by decide +kernel) (by decide +kernel) (show 67 + 1 ≤ 100 from by decide +kernel) (show 278152 + 200 ≤ 288204 from by decide +kernel) d_X12_init_569 ?_
  refine aw_putrF (k0 := 86) kc_12 (ss_n hs15 (by decide)) (Nat.le_of_ble_eq_true rfl) tw_1828 d_X12_init_571 rfl rfl rfl rfl ?_
  have hs19 := ss_step (k := 267) (t := 0) (n := 200) (c' := 1) (s := 86) (r := some 267) hs15 (by decide)
  have hn20 := nn_step (k := 267) (t := 0) (n := 200) (c := 1) (s := 86) (r := some 267) hn16
  have tr21 := rr_step (k := 267) (t := 0) (n := 200) (c := 1) (s := 86) (r := some 267) tr17 (by decide) (by decide)
  have ts22 := ss_step (k := 267) (t := 0) (n := 200) (c' := 1) (s := 86) (r := some 267) ts18 (by decide)
  refine aw_aload_n (i := 0) rfl d_X12_init_574 0 rfl ?_
  refine aw_sipush (v := 200) d_X12_init_575 is_200 ?_
  refine aw_newa (t := 0) (atype := .int) 268 200 (by decide) rfl tw_51 (hn20 268 (by decide) (by decide)) (by decide) xs0 (by decide +kernel) (by decide +kernel) (by decide +kernel) (show 68 + 1 ≤ 100 from by decide +kernel) (show 278352 + 200 ≤ 288204 from by decide +kernel) d_X12_init_578 ?_
  refine aw_putrF (k0 := 87) kc_12 (ss_n hs19 (by decide)) (Nat.le_of_ble_eq_true rfl) tw_1829 d_X12_init_580 rfl rfl rfl rfl ?_
  have hs23 := ss_step (k := 268) (t := 0) (n := 200) (c' := 1) (s := 87) (r := some 268) hs19 (by decide)
  have hn24 := nn_step (k := 268) (t := 0) (n := 200) (c := 1) (s := 87) (r := some 268) hn20
  have tr25 := rr_step (k := 268) (t := 0) (n := 200) (c := 1) (s := 87) (r := some 268) tr21 (by decide) (by decide)
  have ts26 := ss_step (k := 268) (t := 0) (n := 200) (c' := 1) (s := 87) (r := some 268) ts22 (by decide)
  refine aw_aload_n (i := 0) rfl d_X12_init_583 0 rfl ?_
  refine aw_sipush (v := 200) d_X12_init_584 is_200 ?_
  refine aw_newa (t := 0) (atype := .int) 269 200 (by decide) rfl tw_51 (hn24 269 (by decide) (by decide)) (by decide) xs0 (by decide +kernel) (by decide +kernel) (by decide +kernel) (show 69 + 1 ≤ 100 from by decide +kernel) (show 278552 + 200 ≤ 288204 from by decide +kernel) d_X12_init_587 ?_
  refine aw_putrF (k0 := 88) kc_12 (ss_n hs23 (by decide)) (Nat.le_of_ble_eq_true rfl) tw_1830 d_X12_init_589 rfl rfl rfl rfl ?_
  have hs27 := ss_step (k := 269) (t := 0) (n := 200) (c' := 1) (s := 88) (r := some 269) hs23 (by decide)
  have hn28 := nn_step (k := 269) (t := 0) (n := 200) (c := 1) (s := 88) (r := some 269) hn24
  have tr29 := rr_step (k := 269) (t := 0) (n := 200) (c := 1) (s := 88) (r := some 269) tr25 (by decide) (by decide)
  have ts30 := ss_step (k := 269) (t := 0) (n := 200) (c' := 1) (s := 88) (r := some 269) ts26 (by decide)
  refine aw_aload_n (i := 0) rfl d_X12_init_592 0 rfl ?_
  refine aw_sipush (v := 200) d_X12_init_593 is_200 ?_
  refine aw_newa (t := 1) (atype := .boolean) 270 200 (by decide) rfl tw_252 (hn28 270 (by decide) (by decide)) (by decide) xs0 (by decide +kernel) (by decide +kernel) (by decide +kernel) (show 70 + 1 ≤ 100 from by decide +kernel) (show 278752 + 200 ≤ 288204 from by decide +kernel) d_X12_init_596 ?_
  refine aw_putrF (k0 := 89) kc_12 (ss_n hs27 (by decide)) (Nat.le_of_ble_eq_true rfl) tw_1831 d_X12_init_598 rfl rfl rfl rfl ?_
  have hs31 := ss_step (k := 270) (t := 1) (n := 200) (c' := 1) (s := 89) (r := some 270) hs27 (by decide)
  have hn32 := nn_step (k := 270) (t := 1) (n := 200) (c := 1) (s := 89) (r := some 270) hn28
  have tr33 := rr_step (k := 270) (t := 1) (n := 200) (c := 1) (s := 89) (r := some 270) tr29 (by decide) (by decide)
  have ts34 := ss_step (k := 270) (t := 1) (n := 200) (c' := 1) (s := 89) (r := some 270) ts30 (by decide)
  refine aw_aload_n (i := 0) rfl d_X12_init_601 0 rfl ?_
  refine aw_bipush (v := 16) d_X12_init_602 ib_16 ?_
  refine aw_newa (t := 0) (atype := .int) 271 16 (by decide) rfl tw_51 (hn32 271 (by decide) (by decide)) (by decide) xs0 (by decide +kernel) (by decide +kernel) (by decide +kernel) (show 71 + 1 ≤ 100 from by decide +kernel) (show 278952 + 16 ≤ 288204 from by decide +kernel) d_X12_init_604 ?_
  refine aw_putrF (k0 := 90) kc_12 (ss_n hs31 (by decide)) (Nat.le_of_ble_eq_true rfl) tw_1832 d_X12_init_606 rfl rfl rfl rfl ?_
  have hs35 := ss_step (k := 271) (t := 0) (n := 16) (c' := 1) (s := 90) (r := some 271) hs31 (by decide)
  have hn36 := nn_step (k := 271) (t := 0) (n := 16) (c := 1) (s := 90) (r := some 271) hn32
  have tr37 := rr_step (k := 271) (t := 0) (n := 16) (c := 1) (s := 90) (r := some 271) tr33 (by decide) (by decide)
  have ts38 := ss_step (k := 271) (t := 0) (n := 16) (c' := 1) (s := 90) (r := some 271) ts34 (by decide)
  refine aw_aload_n (i := 0) rfl d_X12_init_609 0 rfl ?_
  refine aw_bipush (v := 16) d_X12_init_610 ib_16 ?_
  refine aw_newa (t := 1) (atype := .boolean) 272 16 (by decide) rfl tw_252 (hn36 272 (by decide) (by decide)) (by decide) xs0 (by decide +kernel) (by decide +kernel) (by decide +kernel) (show 72 + 1 ≤ 100 from by decide +kernel) (show 278968 + 16 ≤ 288204 from by decide +kernel) d_X12_init_612 ?_
  refine aw_putrF (k0 := 91) kc_12 (ss_n hs35 (by decide)) (Nat.le_of_ble_eq_true rfl) tw_1833 d_X12_init_614 rfl rfl rfl rfl ?_
  have hs39 := ss_step (k := 272) (t := 1) (n := 16) (c' := 1) (s := 91) (r := some 272) hs35 (by decide)
  have hn40 := nn_step (k := 272) (t := 1) (n := 16) (c := 1) (s := 91) (r := some 272) hn36
  have tr41 := rr_step (k := 272) (t := 1) (n := 16) (c := 1) (s := 91) (r := some 272) tr37 (by decide) (by decide)
  have ts42 := ss_step (k := 272) (t := 1) (n := 16) (c' := 1) (s := 91) (r := some 272) ts38 (by decide)
  refine aw_aload_n (i := 0) rfl d_X12_init_617 0 rfl ?_
  refine aw_sipush (v := 180) d_X12_init_618 is_180 ?_
  refine aw_newa (t := 0) (atype := .int) 273 180 (by decide) rfl tw_51 (hn40 273 (by decide) (by decide)) (by decide) xs0 (by decide +kernel) (by decide +kernel) (by decide +kernel) (show 73 + 1 ≤ 100 from by decide +kernel) (show 278984 + 180 ≤ 288204 from by decide +kernel) d_X12_init_621 ?_
  refine aw_putrF (k0 := 92) kc_12 (ss_n hs39 (by decide)) (Nat.le_of_ble_eq_true rfl) tw_1834 d_X12_init_623 rfl rfl rfl rfl ?_
  have hs43 := ss_step (k := 273) (t := 0) (n := 180) (c' := 1) (s := 92) (r := some 273) hs39 (by decide)
  have hn44 := nn_step (k := 273) (t := 0) (n := 180) (c := 1) (s := 92) (r := some 273) hn40
  have tr45 := rr_step (k := 273) (t := 0) (n := 180) (c := 1) (s := 92) (r := some 273) tr41 (by decide) (by decide)
  have ts46 := ss_step (k := 273) (t := 0) (n := 180) (c' := 1) (s := 92) (r := some 273) ts42 (by decide)
  refine aw_aload_n (i := 0) rfl d_X12_init_626 0 rfl ?_
  refine aw_sipush (v := 180) d_X12_init_627 is_180 ?_
  refine aw_newa (t := 0) (atype := .int) 274 180 (by decide) rfl tw_51 (hn44 274 (by decide) (by decide)) (by decide) xs0 (by decide +kernel) (by decide +kernel) (by decide +kernel) (show 74 + 1 ≤ 100 from by decide +kernel) (show 279164 + 180 ≤ 288204 from by decide +kernel) d_X12_init_630 ?_
  refine aw_putrF (k0 := 93) kc_12 (ss_n hs43 (by decide)) (Nat.le_of_ble_eq_true rfl) tw_1835 d_X12_init_632 rfl rfl rfl rfl ?_
  have hs47 := ss_step (k := 274) (t := 0) (n := 180) (c' := 1) (s := 93) (r := some 274) hs43 (by decide)
  have hn48 := nn_step (k := 274) (t := 0) (n := 180) (c := 1) (s := 93) (r := some 274) hn44
  have tr49 := rr_step (k := 274) (t := 0) (n := 180) (c := 1) (s := 93) (r := some 274) tr45 (by decide) (by decide)
  have ts50 := ss_step (k := 274) (t := 0) (n := 180) (c' := 1) (s := 93) (r := some 274) ts46 (by decide)
  exact k
noncomputable def CC_5 (h : Hp_) : Hp_ := h_rm (h_nw (h_rm (h_nw (h_rm (h_nw (h_rm (h_nw (h_rm (h_nw (h_rm (h_nw (h_rm (h_nw (h_rm (h_nw (h_rm (h_nw (h_im (h_rm (h_nw (h_rm (h_nw (h_rm (h_nw (h_rm (h_nw (h_rm (h_nw h 275 0 180) 1 94 (some 275)) 276 0 30) 1 95 (some 276)) 277 0 30) 1 98 (some 277)) 278 0 8) 1 99 (some 278)) 279 0 8) 1 100 (some 279)) 1 103 3) 280 0 2304) 1 104 (some 280)) 281 0 8) 1 105 (some 281)) 282 0 8) 1 106 (some 282)) 283 0 8) 1 107 (some 283)) 284 0 5) 1 109 (some 284)) 285 0 5) 1 110 (some 285)) 286 0 5) 1 111 (some 286)) 287 0 5) 1 112 (some 287)) 288 0 4) 1 116 (some 288)
theorem cf_5 (h : Hp_) (hs : h_sh h 1 = some (22, 131)) (hn : ∀ a, 275 ≤ a → a < 300 → h_sh h a = none) (tr : h_r h 1 84 = some 265) (ts : h_sh h 265 = some (0, 8)) : h_sh (CC_5 h) 1 = some (22, 131) ∧ (∀ a, 289 ≤ a → a < 300 → h_sh (CC_5 h) a = none) ∧ h_r (CC_5 h) 1 84 = some 265 ∧ h_sh (CC_5 h) 265 = some (0, 8) := by
  have hs1 := ss_step (k := 275) (t := 0) (n := 180) (c' := 1) (s := 94) (r := some 275) hs (by decide)
  have hn2 := nn_step (k := 275) (t := 0) (n := 180) (c := 1) (s := 94) (r := some 275) hn
  have tr3 := rr_step (k := 275) (t := 0) (n := 180) (c := 1) (s := 94) (r := some 275) tr (by decide) (by decide)
  have ts4 := ss_step (k := 275) (t := 0) (n := 180) (c' := 1) (s := 94) (r := some 275) ts (by decide)
  have hs5 := ss_step (k := 276) (t := 0) (n := 30) (c' := 1) (s := 95) (r := some 276) hs1 (by decide)
  have hn6 := nn_step (k := 276) (t := 0) (n := 30) (c := 1) (s := 95) (r := some 276) hn2
  have tr7 := rr_step (k := 276) (t := 0) (n := 30) (c := 1) (s := 95) (r := some 276) tr3 (by decide) (by decide)
  have ts8 := ss_step (k := 276) (t := 0) (n := 30) (c' := 1) (s := 95) (r := some 276) ts4 (by decide)
  have hs9 := ss_step (k := 277) (t := 0) (n := 30) (c' := 1) (s := 98) (r := some 277) hs5 (by decide)
  have hn10 := nn_step (k := 277) (t := 0) (n := 30) (c := 1) (s := 98) (r := some 277) hn6
  have tr11 := rr_step (k := 277) (t := 0) (n := 30) (c := 1) (s := 98) (r := some 277) tr7 (by decide) (by decide)
  have ts12 := ss_step (k := 277) (t := 0) (n := 30) (c' := 1) (s := 98) (r := some 277) ts8 (by decide)
  have hs13 := ss_step (k := 278) (t := 0) (n := 8) (c' := 1) (s := 99) (r := some 278) hs9 (by decide)
  have hn14 := nn_step (k := 278) (t := 0) (n := 8) (c := 1) (s := 99) (r := some 278) hn10
  have tr15 := rr_step (k := 278) (t := 0) (n := 8) (c := 1) (s := 99) (r := some 278) tr11 (by decide) (by decide)
  have ts16 := ss_step (k := 278) (t := 0) (n := 8) (c' := 1) (s := 99) (r := some 278) ts12 (by decide)
  have hs17 := ss_step (k := 279) (t := 0) (n := 8) (c' := 1) (s := 100) (r := some 279) hs13 (by decide)
  have hn18 := nn_step (k := 279) (t := 0) (n := 8) (c := 1) (s := 100) (r := some 279) hn14
  have tr19 := rr_step (k := 279) (t := 0) (n := 8) (c := 1) (s := 100) (r := some 279) tr15 (by decide) (by decide)
  have ts20 := ss_step (k := 279) (t := 0) (n := 8) (c' := 1) (s := 100) (r := some 279) ts16 (by decide)
  have hs21 := ss_im (a := 1) (k := 103) (x := 3) hs17
  have hn22 := nn_im (b := 1) (k := 103) (x := 3) hn18
  have tr23 := rr_im (a := 1) (k := 103) (x := 3) tr19
  have ts24 := ss_im (a := 1) (k := 103) (x := 3) ts20
  have hs25 := ss_step (k := 280) (t := 0) (n := 2304) (c' := 1) (s := 104) (r := some 280) hs21 (by decide)
  have hn26 := nn_step (k := 280) (t := 0) (n := 2304) (c := 1) (s := 104) (r := some 280) hn22
  have tr27 := rr_step (k := 280) (t := 0) (n := 2304) (c := 1) (s := 104) (r := some 280) tr23 (by decide) (by decide)
  have ts28 := ss_step (k := 280) (t := 0) (n := 2304) (c' := 1) (s := 104) (r := some 280) ts24 (by decide)
  have hs29 := ss_step (k := 281) (t := 0) (n := 8) (c' := 1) (s := 105) (r := some 281) hs25 (by decide)
  have hn30 := nn_step (k := 281) (t := 0) (n := 8) (c := 1) (s := 105) (r := some 281) hn26
  have tr31 := rr_step (k := 281) (t := 0) (n := 8) (c := 1) (s := 105) (r := some 281) tr27 (by decide) (by decide)
  have ts32 := ss_step (k := 281) (t := 0) (n := 8) (c' := 1) (s := 105) (r := some 281) ts28 (by decide)
  have hs33 := ss_step (k := 282) (t := 0) (n := 8) (c' := 1) (s := 106) (r := some 282) hs29 (by decide)
  have hn34 := nn_step (k := 282) (t := 0) (n := 8) (c := 1) (s := 106) (r := some 282) hn30
  have tr35 := rr_step (k := 282) (t := 0) (n := 8) (c := 1) (s := 106) (r := some 282) tr31 (by decide) (by decide)
  have ts36 := ss_step (k := 282) (t := 0) (n := 8) (c' := 1) (s := 106) (r := some 282) ts32 (by decide)
  have hs37 := ss_step (k := 283) (t := 0) (n := 8) (c' := 1) (s := 107) (r := some 283) hs33 (by decide)
  have hn38 := nn_step (k := 283) (t := 0) (n := 8) (c := 1) (s := 107) (r := some 283) hn34
  have tr39 := rr_step (k := 283) (t := 0) (n := 8) (c := 1) (s := 107) (r := some 283) tr35 (by decide) (by decide)
  have ts40 := ss_step (k := 283) (t := 0) (n := 8) (c' := 1) (s := 107) (r := some 283) ts36 (by decide)
  have hs41 := ss_step (k := 284) (t := 0) (n := 5) (c' := 1) (s := 109) (r := some 284) hs37 (by decide)
  have hn42 := nn_step (k := 284) (t := 0) (n := 5) (c := 1) (s := 109) (r := some 284) hn38
  have tr43 := rr_step (k := 284) (t := 0) (n := 5) (c := 1) (s := 109) (r := some 284) tr39 (by decide) (by decide)
  have ts44 := ss_step (k := 284) (t := 0) (n := 5) (c' := 1) (s := 109) (r := some 284) ts40 (by decide)
  have hs45 := ss_step (k := 285) (t := 0) (n := 5) (c' := 1) (s := 110) (r := some 285) hs41 (by decide)
  have hn46 := nn_step (k := 285) (t := 0) (n := 5) (c := 1) (s := 110) (r := some 285) hn42
  have tr47 := rr_step (k := 285) (t := 0) (n := 5) (c := 1) (s := 110) (r := some 285) tr43 (by decide) (by decide)
  have ts48 := ss_step (k := 285) (t := 0) (n := 5) (c' := 1) (s := 110) (r := some 285) ts44 (by decide)
  have hs49 := ss_step (k := 286) (t := 0) (n := 5) (c' := 1) (s := 111) (r := some 286) hs45 (by decide)
  have hn50 := nn_step (k := 286) (t := 0) (n := 5) (c := 1) (s := 111) (r := some 286) hn46
  have tr51 := rr_step (k := 286) (t := 0) (n := 5) (c := 1) (s := 111) (r := some 286) tr47 (by decide) (by decide)
  have ts52 := ss_step (k := 286) (t := 0) (n := 5) (c' := 1) (s := 111) (r := some 286) ts48 (by decide)
  have hs53 := ss_step (k := 287) (t := 0) (n := 5) (c' := 1) (s := 112) (r := some 287) hs49 (by decide)
  have hn54 := nn_step (k := 287) (t := 0) (n := 5) (c := 1) (s := 112) (r := some 287) hn50
  have tr55 := rr_step (k := 287) (t := 0) (n := 5) (c := 1) (s := 112) (r := some 287) tr51 (by decide) (by decide)
  have ts56 := ss_step (k := 287) (t := 0) (n := 5) (c' := 1) (s := 112) (r := some 287) ts52 (by decide)
  have hs57 := ss_step (k := 288) (t := 0) (n := 4) (c' := 1) (s := 116) (r := some 288) hs53 (by decide)
  have hn58 := nn_step (k := 288) (t := 0) (n := 4) (c := 1) (s := 116) (r := some 288) hn54
  have tr59 := rr_step (k := 288) (t := 0) (n := 4) (c := 1) (s := 116) (r := some 288) tr55 (by decide) (by decide)
  have ts60 := ss_step (k := 288) (t := 0) (n := 4) (c' := 1) (s := 116) (r := some 288) ts56 (by decide)
  exact ⟨hs57, hn58, tr59, ts60⟩
theorem ck_5 (d : Nat) (h : Hp_) (K : Option Value → Hp_ → Prop) (hs : h_sh h 1 = some (22, 131)) (hn : ∀ a, 275 ≤ a → a < 300 → h_sh h a = none) (tr : h_r h 1 84 = some 265) (ts : h_sh h 265 = some (0, 8)) (k : AW (m_X12_init (d + 1) 100 288204) 89 281952 749 [(0, .ref 1)] [] (CC_5 h) K) : AW (m_X12_init (d + 1) 100 288204) 75 279344 635 [(0, .ref 1)] [] h K := by
  refine aw_aload_n (i := 0) rfl d_X12_init_635 0 rfl ?_
  refine aw_sipush (v := 180) d_X12_init_636 is_180 ?_
  refine aw_newa (t := 0) (atype := .int) 275 180 (by decide) rfl tw_51 (hn 275 (by decide) (by decide)) (by decide) xs0 (by decide +kernel) (by decide +kernel) (by decide +kernel) (show 75 + 1 ≤ 100 from by decide +kernel) (show 279344 + 180 ≤ 288204 from by decide +kernel) d_X12_init_639 ?_
  refine aw_putrF (k0 := 94) kc_12 (ss_n hs (by decide)) (Nat.le_of_ble_eq_true rfl) tw_1836 d_X12_init_641 rfl rfl rfl rfl ?_
  have hs1 := ss_step (k := 275) (t := 0) (n := 180) (c' := 1) (s := 94) (r := some 275) hs (by decide)
  have hn2 := nn_step (k := 275) (t := 0) (n := 180) (c := 1) (s := 94) (r := some 275) hn
  have tr3 := rr_step (k := 275) (t := 0) (n := 180) (c := 1) (s := 94) (r := some 275) tr (by decide) (by decide)
  have ts4 := ss_step (k := 275) (t := 0) (n := 180) (c' := 1) (s := 94) (r := some 275) ts (by decide)
  refine aw_aload_n (i := 0) rfl d_X12_init_644 0 rfl ?_
  refine aw_bipush (v := 30) d_X12_init_645 ib_30 ?_
  refine aw_newa (t := 0) (atype := .int) 276 30 (by decide) rfl tw_51 (hn2 276 (by decide) (by decide)) (by decide) xs0 (by decide +kernel) (by decide +kernel) (by decide +kernel) (show 76 + 1 ≤ 100 from by decide +kernel) (show 279524 + 30 ≤ 288204 from by decide +kernel) d_X12_init_647 ?_
  refine aw_putrF (k0 := 95) kc_12 (ss_n hs1 (by decide)) (Nat.le_of_ble_eq_true rfl) tw_1837 d_X12_init_649 rfl rfl rfl rfl ?_
  have hs5 := ss_step (k := 276) (t := 0) (n := 30) (c' := 1) (s := 95) (r := some 276) hs1 (by decide)
  have hn6 := nn_step (k := 276) (t := 0) (n := 30) (c := 1) (s := 95) (r := some 276) hn2
  have tr7 := rr_step (k := 276) (t := 0) (n := 30) (c := 1) (s := 95) (r := some 276) tr3 (by decide) (by decide)
  have ts8 := ss_step (k := 276) (t := 0) (n := 30) (c' := 1) (s := 95) (r := some 276) ts4 (by decide)
  refine aw_aload_n (i := 0) rfl d_X12_init_652 0 rfl ?_
  refine aw_bipush (v := 30) d_X12_init_653 ib_30 ?_
  refine aw_newa (t := 0) (atype := .int) 277 30 (by decide) rfl tw_51 (hn6 277 (by decide) (by decide)) (by decide) xs0 (by decide +kernel) (by decide +kernel) (by decide +kernel) (show 77 + 1 ≤ 100 from by decide +kernel) (show 279554 + 30 ≤ 288204 from by decide +kernel) d_X12_init_655 ?_
  refine aw_putrF (k0 := 98) kc_12 (ss_n hs5 (by decide)) (Nat.le_of_ble_eq_true rfl) tw_1840 d_X12_init_657 rfl rfl rfl rfl ?_
  have hs9 := ss_step (k := 277) (t := 0) (n := 30) (c' := 1) (s := 98) (r := some 277) hs5 (by decide)
  have hn10 := nn_step (k := 277) (t := 0) (n := 30) (c := 1) (s := 98) (r := some 277) hn6
  have tr11 := rr_step (k := 277) (t := 0) (n := 30) (c := 1) (s := 98) (r := some 277) tr7 (by decide) (by decide)
  have ts12 := ss_step (k := 277) (t := 0) (n := 30) (c' := 1) (s := 98) (r := some 277) ts8 (by decide)
  refine aw_aload_n (i := 0) rfl d_X12_init_660 0 rfl ?_
  refine aw_bipush (v := 8) d_X12_init_661 ib_8 ?_
  refine aw_newa (t := 0) (atype := .int) 278 8 (by decide) rfl tw_51 (hn10 278 (by decide) (by decide)) (by decide) xs0 (by decide +kernel) (by decide +kernel) (by decide +kernel) (show 78 + 1 ≤ 100 from by decide +kernel) (show 279584 + 8 ≤ 288204 from by decide +kernel) d_X12_init_663 ?_
  refine aw_putrF (k0 := 99) kc_12 (ss_n hs9 (by decide)) (Nat.le_of_ble_eq_true rfl) tw_1841 d_X12_init_665 rfl rfl rfl rfl ?_
  have hs13 := ss_step (k := 278) (t := 0) (n := 8) (c' := 1) (s := 99) (r := some 278) hs9 (by decide)
  have hn14 := nn_step (k := 278) (t := 0) (n := 8) (c := 1) (s := 99) (r := some 278) hn10
  have tr15 := rr_step (k := 278) (t := 0) (n := 8) (c := 1) (s := 99) (r := some 278) tr11 (by decide) (by decide)
  have ts16 := ss_step (k := 278) (t := 0) (n := 8) (c' := 1) (s := 99) (r := some 278) ts12 (by decide)
  refine aw_aload_n (i := 0) rfl d_X12_init_668 0 rfl ?_
  refine aw_bipush (v := 8) d_X12_init_669 ib_8 ?_
  refine aw_newa (t := 0) (atype := .int) 279 8 (by decide) rfl tw_51 (hn14 279 (by decide) (by decide)) (by decide) xs0 (by decide +kernel) (by decide +kernel) (by decide +kernel) (show 79 + 1 ≤ 100 from by decide +kernel) (show 279592 + 8 ≤ 288204 from by decide +kernel) d_X12_init_671 ?_
  refine aw_putrF (k0 := 100) kc_12 (ss_n hs13 (by decide)) (Nat.le_of_ble_eq_true rfl) tw_1842 d_X12_init_673 rfl rfl rfl rfl ?_
  have hs17 := ss_step (k := 279) (t := 0) (n := 8) (c' := 1) (s := 100) (r := some 279) hs13 (by decide)
  have hn18 := nn_step (k := 279) (t := 0) (n := 8) (c := 1) (s := 100) (r := some 279) hn14
  have tr19 := rr_step (k := 279) (t := 0) (n := 8) (c := 1) (s := 100) (r := some 279) tr15 (by decide) (by decide)
  have ts20 := ss_step (k := 279) (t := 0) (n := 8) (c' := 1) (s := 100) (r := some 279) ts16 (by decide)
  refine aw_aload_n (i := 0) rfl d_X12_init_676 0 rfl ?_
  refine aw_iconst (v := 3) d_X12_init_677 ic_3 ?_
  refine aw_puti (k0 := 103) kc_12 hs17 (Nat.le_of_ble_eq_true rfl) tw_1845 d_X12_init_678 rfl rfl nf_i ?_
  have hs21 := ss_im (a := 1) (k := 103) (x := 3) hs17
  have hn22 := nn_im (b := 1) (k := 103) (x := 3) hn18
  have tr23 := rr_im (a := 1) (k := 103) (x := 3) tr19
  have ts24 := ss_im (a := 1) (k := 103) (x := 3) ts20
  refine aw_aload_n (i := 0) rfl d_X12_init_681 0 rfl ?_
  refine aw_sipush (v := 2304) d_X12_init_682 is_2304 ?_
  refine aw_newa (t := 0) (atype := .int) 280 2304 (by decide) rfl tw_51 (hn22 280 (by decide) (by decide)) (by decide) xs0 (by decide +kernel) (by decide +kernel) (by decide +kernel) (show 80 + 1 ≤ 100 from by decide +kernel) (show 279600 + 2304 ≤ 288204 from by decide +kernel) d_X12_init_685 ?_
  refine aw_putrF (k0 := 104) kc_12 (ss_n hs21 (by decide)) (Nat.le_of_ble_eq_true rfl) tw_1846 d_X12_init_687 rfl rfl rfl rfl ?_
  have hs25 := ss_step (k := 280) (t := 0) (n := 2304) (c' := 1) (s := 104) (r := some 280) hs21 (by decide)
  have hn26 := nn_step (k := 280) (t := 0) (n := 2304) (c := 1) (s := 104) (r := some 280) hn22
  have tr27 := rr_step (k := 280) (t := 0) (n := 2304) (c := 1) (s := 104) (r := some 280) tr23 (by decide) (by decide)
  have ts28 := ss_step (k := 280) (t := 0) (n := 2304) (c' := 1) (s := 104) (r := some 280) ts24 (by decide)
  refine aw_aload_n (i := 0) rfl d_X12_init_690 0 rfl ?_
  refine aw_bipush (v := 8) d_X12_init_691 ib_8 ?_
  refine aw_newa (t := 0) (atype := .int) 281 8 (by decide) rfl tw_51 (hn26 281 (by decide) (by decide)) (by decide) xs0 (by decide +kernel) (by decide +kernel) (by decide +kernel) (show 81 + 1 ≤ 100 from by decide +kernel) (show 281904 + 8 ≤ 288204 from by decide +kernel) d_X12_init_693 ?_
  refine aw_putrF (k0 := 105) kc_12 (ss_n hs25 (by decide)) (Nat.le_of_ble_eq_true rfl) tw_1847 d_X12_init_695 rfl rfl rfl rfl ?_
  have hs29 := ss_step (k := 281) (t := 0) (n := 8) (c' := 1) (s := 105) (r := some 281) hs25 (by decide)
  have hn30 := nn_step (k := 281) (t := 0) (n := 8) (c := 1) (s := 105) (r := some 281) hn26
  have tr31 := rr_step (k := 281) (t := 0) (n := 8) (c := 1) (s := 105) (r := some 281) tr27 (by decide) (by decide)
  have ts32 := ss_step (k := 281) (t := 0) (n := 8) (c' := 1) (s := 105) (r := some 281) ts28 (by decide)
  refine aw_aload_n (i := 0) rfl d_X12_init_698 0 rfl ?_
  refine aw_bipush (v := 8) d_X12_init_699 ib_8 ?_
  refine aw_newa (t := 0) (atype := .int) 282 8 (by decide) rfl tw_51 (hn30 282 (by decide) (by decide)) (by decide) xs0 (by decide +kernel) (by decide +kernel) (by decide +kernel) (show 82 + 1 ≤ 100 from by decide +kernel) (show 281912 + 8 ≤ 288204 from by decide +kernel) d_X12_init_701 ?_
  refine aw_putrF (k0 := 106) kc_12 (ss_n hs29 (by decide)) (Nat.le_of_ble_eq_true rfl) tw_1848 d_X12_init_703 rfl rfl rfl rfl ?_
  have hs33 := ss_step (k := 282) (t := 0) (n := 8) (c' := 1) (s := 106) (r := some 282) hs29 (by decide)
  have hn34 := nn_step (k := 282) (t := 0) (n := 8) (c := 1) (s := 106) (r := some 282) hn30
  have tr35 := rr_step (k := 282) (t := 0) (n := 8) (c := 1) (s := 106) (r := some 282) tr31 (by decide) (by decide)
  have ts36 := ss_step (k := 282) (t := 0) (n := 8) (c' := 1) (s := 106) (r := some 282) ts32 (by decide)
  refine aw_aload_n (i := 0) rfl d_X12_init_706 0 rfl ?_
  refine aw_bipush (v := 8) d_X12_init_707 ib_8 ?_
  refine aw_newa (t := 0) (atype := .int) 283 8 (by decide) rfl tw_51 (hn34 283 (by decide) (by decide)) (by decide) xs0 (by decide +kernel) (by decide +kernel) (by decide +kernel) (show 83 + 1 ≤ 100 from by decide +kernel) (show 281920 + 8 ≤ 288204 from by decide +kernel) d_X12_init_709 ?_
  refine aw_putrF (k0 := 107) kc_12 (ss_n hs33 (by decide)) (Nat.le_of_ble_eq_true rfl) tw_1849 d_X12_init_711 rfl rfl rfl rfl ?_
  have hs37 := ss_step (k := 283) (t := 0) (n := 8) (c' := 1) (s := 107) (r := some 283) hs33 (by decide)
  have hn38 := nn_step (k := 283) (t := 0) (n := 8) (c := 1) (s := 107) (r := some 283) hn34
  have tr39 := rr_step (k := 283) (t := 0) (n := 8) (c := 1) (s := 107) (r := some 283) tr35 (by decide) (by decide)
  have ts40 := ss_step (k := 283) (t := 0) (n := 8) (c' := 1) (s := 107) (r := some 283) ts36 (by decide)
  refine aw_aload_n (i := 0) rfl d_X12_init_714 0 rfl ?_
  refine aw_iconst (v := 5) d_X12_init_715 ic_5 ?_
  refine aw_newa (t := 0) (atype := .int) 284 5 (by decide) rfl tw_51 (hn38 284 (by decide) (by decide)) (by decide) xs0 (by decide +kernel) (by decide +kernel) (by decide +kernel) (show 84 + 1 ≤ 100 from by decide +kernel) (show 281928 + 5 ≤ 288204 from by decide +kernel) d_X12_init_716 ?_
  refine aw_putrF (k0 := 109) kc_12 (ss_n hs37 (by decide)) (Nat.le_of_ble_eq_true rfl) tw_1851 d_X12_init_718 rfl rfl rfl rfl ?_
  have hs41 := ss_step (k := 284) (t := 0) (n := 5) (c' := 1) (s := 109) (r := some 284) hs37 (by decide)
  have hn42 := nn_step (k := 284) (t := 0) (n := 5) (c := 1) (s := 109) (r := some 284) hn38
  have tr43 := rr_step (k := 284) (t := 0) (n := 5) (c := 1) (s := 109) (r := some 284) tr39 (by decide) (by decide)
  have ts44 := ss_step (k := 284) (t := 0) (n := 5) (c' := 1) (s := 109) (r := some 284) ts40 (by decide)
  refine aw_aload_n (i := 0) rfl d_X12_init_721 0 rfl ?_
  refine aw_iconst (v := 5) d_X12_init_722 ic_5 ?_
  refine aw_newa (t := 0) (atype := .int) 285 5 (by decide) rfl tw_51 (hn42 285 (by decide) (by decide)) (by decide) xs0 (by decide +kernel) (by decide +kernel) (by decide +kernel) (show 85 + 1 ≤ 100 from by decide +kernel) (show 281933 + 5 ≤ 288204 from by decide +kernel) d_X12_init_723 ?_
  refine aw_putrF (k0 := 110) kc_12 (ss_n hs41 (by decide)) (Nat.le_of_ble_eq_true rfl) tw_1852 d_X12_init_725 rfl rfl rfl rfl ?_
  have hs45 := ss_step (k := 285) (t := 0) (n := 5) (c' := 1) (s := 110) (r := some 285) hs41 (by decide)
  have hn46 := nn_step (k := 285) (t := 0) (n := 5) (c := 1) (s := 110) (r := some 285) hn42
  have tr47 := rr_step (k := 285) (t := 0) (n := 5) (c := 1) (s := 110) (r := some 285) tr43 (by decide) (by decide)
  have ts48 := ss_step (k := 285) (t := 0) (n := 5) (c' := 1) (s := 110) (r := some 285) ts44 (by decide)
  refine aw_aload_n (i := 0) rfl d_X12_init_728 0 rfl ?_
  refine aw_iconst (v := 5) d_X12_init_729 ic_5 ?_
  refine aw_newa (t := 0) (atype := .int) 286 5 (by decide) rfl tw_51 (hn46 286 (by decide) (by decide)) (by decide) xs0 (by decide +kernel) (by decide +kernel) (by decide +kernel) (show 86 + 1 ≤ 100 from by decide +kernel) (show 281938 + 5 ≤ 288204 from by decide +kernel) d_X12_init_730 ?_
  refine aw_putrF (k0 := 111) kc_12 (ss_n hs45 (by decide)) (Nat.le_of_ble_eq_true rfl) tw_1853 d_X12_init_732 rfl rfl rfl rfl ?_
  have hs49 := ss_step (k := 286) (t := 0) (n := 5) (c' := 1) (s := 111) (r := some 286) hs45 (by decide)
  have hn50 := nn_step (k := 286) (t := 0) (n := 5) (c := 1) (s := 111) (r := some 286) hn46
  have tr51 := rr_step (k := 286) (t := 0) (n := 5) (c := 1) (s := 111) (r := some 286) tr47 (by decide) (by decide)
  have ts52 := ss_step (k := 286) (t := 0) (n := 5) (c' := 1) (s := 111) (r := some 286) ts48 (by decide)
  refine aw_aload_n (i := 0) rfl d_X12_init_735 0 rfl ?_
  refine aw_iconst (v := 5) d_X12_init_736 ic_5 ?_
  refine aw_newa (t := 0) (atype := .int) 287 5 (by decide) rfl tw_51 (hn50 287 (by decide) (by decide)) (by decide) xs0 (by decide +kernel) (by decide +kernel) (by decide +kernel) (show 87 + 1 ≤ 100 from by decide +kernel) (show 281943 + 5 ≤ 288204 from by decide +kernel) d_X12_init_737 ?_
  refine aw_putrF (k0 := 112) kc_12 (ss_n hs49 (by decide)) (Nat.le_of_ble_eq_true rfl) tw_1854 d_X12_init_739 rfl rfl rfl rfl ?_
  have hs53 := ss_step (k := 287) (t := 0) (n := 5) (c' := 1) (s := 112) (r := some 287) hs49 (by decide)
  have hn54 := nn_step (k := 287) (t := 0) (n := 5) (c := 1) (s := 112) (r := some 287) hn50
  have tr55 := rr_step (k := 287) (t := 0) (n := 5) (c := 1) (s := 112) (r := some 287) tr51 (by decide) (by decide)
  have ts56 := ss_step (k := 287) (t := 0) (n := 5) (c' := 1) (s := 112) (r := some 287) ts52 (by decide)
  refine aw_aload_n (i := 0) rfl d_X12_init_742 0 rfl ?_
  refine aw_iconst (v := 4) d_X12_init_743 ic_4 ?_
  refine aw_newa (t := 0) (atype := .int) 288 4 (by decide) rfl tw_51 (hn54 288 (by decide) (by decide)) (by decide) xs0 (by decide +kernel) (by decide +kernel) (by decide +kernel) (show 88 + 1 ≤ 100 from by decide +kernel) (show 281948 + 4 ≤ 288204 from by decide +kernel) d_X12_init_744 ?_
  refine aw_putrF (k0 := 116) kc_12 (ss_n hs53 (by decide)) (Nat.le_of_ble_eq_true rfl) tw_1858 d_X12_init_746 rfl rfl rfl rfl ?_
  have hs57 := ss_step (k := 288) (t := 0) (n := 4) (c' := 1) (s := 116) (r := some 288) hs53 (by decide)
  have hn58 := nn_step (k := 288) (t := 0) (n := 4) (c := 1) (s := 116) (r := some 288) hn54
  have tr59 := rr_step (k := 288) (t := 0) (n := 4) (c := 1) (s := 116) (r := some 288) tr55 (by decide) (by decide)
  have ts60 := ss_step (k := 288) (t := 0) (n := 4) (c' := 1) (s := 116) (r := some 288) ts56 (by decide)
  exact k
noncomputable def CC_6 (h : Hp_) : Hp_ := h_im (h_rm (h_nw (h_rm (h_nw (h_rm (h_nw (h_rm (h_nw (h_rm (h_nw (h_rm (h_nw (h_rm (h_nw (h_rm (h_nw (h_rm (h_nw (h_rm (h_nw (h_rm (h_nw h 289 0 4) 1 117 (some 289)) 290 0 4) 1 118 (some 290)) 291 0 3328) 1 120 (some 291)) 292 0 48) 1 121 (some 292)) 293 0 372) 1 122 (some 293)) 294 0 600) 1 123 (some 294)) 295 0 600) 1 124 (some 295)) 296 0 600) 1 125 (some 296)) 297 0 600) 1 126 (some 297)) 298 0 48) 1 128 (some 298)) 299 1 48) 1 129 (some 299)) 1 130 3
theorem cf_6 (h : Hp_) (hs : h_sh h 1 = some (22, 131)) (hn : ∀ a, 289 ≤ a → a < 300 → h_sh h a = none) (tr : h_r h 1 84 = some 265) (ts : h_sh h 265 = some (0, 8)) : h_sh (CC_6 h) 1 = some (22, 131) ∧ (∀ a, 300 ≤ a → a < 300 → h_sh (CC_6 h) a = none) ∧ h_r (CC_6 h) 1 84 = some 265 ∧ h_sh (CC_6 h) 265 = some (0, 8) := by
  have hs1 := ss_step (k := 289) (t := 0) (n := 4) (c' := 1) (s := 117) (r := some 289) hs (by decide)
  have hn2 := nn_step (k := 289) (t := 0) (n := 4) (c := 1) (s := 117) (r := some 289) hn
  have tr3 := rr_step (k := 289) (t := 0) (n := 4) (c := 1) (s := 117) (r := some 289) tr (by decide) (by decide)
  have ts4 := ss_step (k := 289) (t := 0) (n := 4) (c' := 1) (s := 117) (r := some 289) ts (by decide)
  have hs5 := ss_step (k := 290) (t := 0) (n := 4) (c' := 1) (s := 118) (r := some 290) hs1 (by decide)
  have hn6 := nn_step (k := 290) (t := 0) (n := 4) (c := 1) (s := 118) (r := some 290) hn2
  have tr7 := rr_step (k := 290) (t := 0) (n := 4) (c := 1) (s := 118) (r := some 290) tr3 (by decide) (by decide)
  have ts8 := ss_step (k := 290) (t := 0) (n := 4) (c' := 1) (s := 118) (r := some 290) ts4 (by decide)
  have hs9 := ss_step (k := 291) (t := 0) (n := 3328) (c' := 1) (s := 120) (r := some 291) hs5 (by decide)
  have hn10 := nn_step (k := 291) (t := 0) (n := 3328) (c := 1) (s := 120) (r := some 291) hn6
  have tr11 := rr_step (k := 291) (t := 0) (n := 3328) (c := 1) (s := 120) (r := some 291) tr7 (by decide) (by decide)
  have ts12 := ss_step (k := 291) (t := 0) (n := 3328) (c' := 1) (s := 120) (r := some 291) ts8 (by decide)
  have hs13 := ss_step (k := 292) (t := 0) (n := 48) (c' := 1) (s := 121) (r := some 292) hs9 (by decide)
  have hn14 := nn_step (k := 292) (t := 0) (n := 48) (c := 1) (s := 121) (r := some 292) hn10
  have tr15 := rr_step (k := 292) (t := 0) (n := 48) (c := 1) (s := 121) (r := some 292) tr11 (by decide) (by decide)
  have ts16 := ss_step (k := 292) (t := 0) (n := 48) (c' := 1) (s := 121) (r := some 292) ts12 (by decide)
  have hs17 := ss_step (k := 293) (t := 0) (n := 372) (c' := 1) (s := 122) (r := some 293) hs13 (by decide)
  have hn18 := nn_step (k := 293) (t := 0) (n := 372) (c := 1) (s := 122) (r := some 293) hn14
  have tr19 := rr_step (k := 293) (t := 0) (n := 372) (c := 1) (s := 122) (r := some 293) tr15 (by decide) (by decide)
  have ts20 := ss_step (k := 293) (t := 0) (n := 372) (c' := 1) (s := 122) (r := some 293) ts16 (by decide)
  have hs21 := ss_step (k := 294) (t := 0) (n := 600) (c' := 1) (s := 123) (r := some 294) hs17 (by decide)
  have hn22 := nn_step (k := 294) (t := 0) (n := 600) (c := 1) (s := 123) (r := some 294) hn18
  have tr23 := rr_step (k := 294) (t := 0) (n := 600) (c := 1) (s := 123) (r := some 294) tr19 (by decide) (by decide)
  have ts24 := ss_step (k := 294) (t := 0) (n := 600) (c' := 1) (s := 123) (r := some 294) ts20 (by decide)
  have hs25 := ss_step (k := 295) (t := 0) (n := 600) (c' := 1) (s := 124) (r := some 295) hs21 (by decide)
  have hn26 := nn_step (k := 295) (t := 0) (n := 600) (c := 1) (s := 124) (r := some 295) hn22
  have tr27 := rr_step (k := 295) (t := 0) (n := 600) (c := 1) (s := 124) (r := some 295) tr23 (by decide) (by decide)
  have ts28 := ss_step (k := 295) (t := 0) (n := 600) (c' := 1) (s := 124) (r := some 295) ts24 (by decide)
  have hs29 := ss_step (k := 296) (t := 0) (n := 600) (c' := 1) (s := 125) (r := some 296) hs25 (by decide)
  have hn30 := nn_step (k := 296) (t := 0) (n := 600) (c := 1) (s := 125) (r := some 296) hn26
  have tr31 := rr_step (k := 296) (t := 0) (n := 600) (c := 1) (s := 125) (r := some 296) tr27 (by decide) (by decide)
  have ts32 := ss_step (k := 296) (t := 0) (n := 600) (c' := 1) (s := 125) (r := some 296) ts28 (by decide)
  have hs33 := ss_step (k := 297) (t := 0) (n := 600) (c' := 1) (s := 126) (r := some 297) hs29 (by decide)
  have hn34 := nn_step (k := 297) (t := 0) (n := 600) (c := 1) (s := 126) (r := some 297) hn30
  have tr35 := rr_step (k := 297) (t := 0) (n := 600) (c := 1) (s := 126) (r := some 297) tr31 (by decide) (by decide)
  have ts36 := ss_step (k := 297) (t := 0) (n := 600) (c' := 1) (s := 126) (r := some 297) ts32 (by decide)
  have hs37 := ss_step (k := 298) (t := 0) (n := 48) (c' := 1) (s := 128) (r := some 298) hs33 (by decide)
  have hn38 := nn_step (k := 298) (t := 0) (n := 48) (c := 1) (s := 128) (r := some 298) hn34
  have tr39 := rr_step (k := 298) (t := 0) (n := 48) (c := 1) (s := 128) (r := some 298) tr35 (by decide) (by decide)
  have ts40 := ss_step (k := 298) (t := 0) (n := 48) (c' := 1) (s := 128) (r := some 298) ts36 (by decide)
  have hs41 := ss_step (k := 299) (t := 1) (n := 48) (c' := 1) (s := 129) (r := some 299) hs37 (by decide)
  have hn42 := nn_step (k := 299) (t := 1) (n := 48) (c := 1) (s := 129) (r := some 299) hn38
  have tr43 := rr_step (k := 299) (t := 1) (n := 48) (c := 1) (s := 129) (r := some 299) tr39 (by decide) (by decide)
  have ts44 := ss_step (k := 299) (t := 1) (n := 48) (c' := 1) (s := 129) (r := some 299) ts40 (by decide)
  have hs45 := ss_im (a := 1) (k := 130) (x := 3) hs41
  have hn46 := nn_im (b := 1) (k := 130) (x := 3) hn42
  have tr47 := rr_im (a := 1) (k := 130) (x := 3) tr43
  have ts48 := ss_im (a := 1) (k := 130) (x := 3) ts44
  exact ⟨hs45, hn46, tr47, ts48⟩
theorem ck_6 (d : Nat) (h : Hp_) (K : Option Value → Hp_ → Prop) (hs : h_sh h 1 = some (22, 131)) (hn : ∀ a, 289 ≤ a → a < 300 → h_sh h a = none) (tr : h_r h 1 84 = some 265) (ts : h_sh h 265 = some (0, 8)) (k : AW (m_X12_init (d + 1) 100 288204) 100 288204 846 [(0, .ref 1)] [] (CC_6 h) K) : AW (m_X12_init (d + 1) 100 288204) 89 281952 749 [(0, .ref 1)] [] h K := by
  refine aw_aload_n (i := 0) rfl d_X12_init_749 0 rfl ?_
  refine aw_iconst (v := 4) d_X12_init_750 ic_4 ?_
  refine aw_newa (t := 0) (atype := .int) 289 4 (by decide) rfl tw_51 (hn 289 (by decide) (by decide)) (by decide) xs0 (by decide +kernel) (by decide +kernel) (by decide +kernel) (show 89 + 1 ≤ 100 from by decide +kernel) (show 281952 + 4 ≤ 288204 from by decide +kernel) d_X12_init_751 ?_
  refine aw_putrF (k0 := 117) kc_12 (ss_n hs (by decide)) (Nat.le_of_ble_eq_true rfl) tw_1859 d_X12_init_753 rfl rfl rfl rfl ?_
  have hs1 := ss_step (k := 289) (t := 0) (n := 4) (c' := 1) (s := 117) (r := some 289) hs (by decide)
  have hn2 := nn_step (k := 289) (t := 0) (n := 4) (c := 1) (s := 117) (r := some 289) hn
  have tr3 := rr_step (k := 289) (t := 0) (n := 4) (c := 1) (s := 117) (r := some 289) tr (by decide) (by decide)
  have ts4 := ss_step (k := 289) (t := 0) (n := 4) (c' := 1) (s := 117) (r := some 289) ts (by decide)
  refine aw_aload_n (i := 0) rfl d_X12_init_756 0 rfl ?_
  refine aw_iconst (v := 4) d_X12_init_757 ic_4 ?_
  refine aw_newa (t := 0) (atype := .int) 290 4 (by decide) rfl tw_51 (hn2 290 (by decide) (by decide)) (by decide) xs0 (by decide +kernel) (by decide +kernel) (by decide +kernel) (show 90 + 1 ≤ 100 from by decide +kernel) (show 281956 + 4 ≤ 288204 from by decide +kernel) d_X12_init_758 ?_
  refine aw_putrF (k0 := 118) kc_12 (ss_n hs1 (by decide)) (Nat.le_of_ble_eq_true rfl) tw_1860 d_X12_init_760 rfl rfl rfl rfl ?_
  have hs5 := ss_step (k := 290) (t := 0) (n := 4) (c' := 1) (s := 118) (r := some 290) hs1 (by decide)
  have hn6 := nn_step (k := 290) (t := 0) (n := 4) (c := 1) (s := 118) (r := some 290) hn2
  have tr7 := rr_step (k := 290) (t := 0) (n := 4) (c := 1) (s := 118) (r := some 290) tr3 (by decide) (by decide)
  have ts8 := ss_step (k := 290) (t := 0) (n := 4) (c' := 1) (s := 118) (r := some 290) ts4 (by decide)
  refine aw_aload_n (i := 0) rfl d_X12_init_763 0 rfl ?_
  refine aw_sipush (v := 3328) d_X12_init_764 is_3328 ?_
  refine aw_newa (t := 0) (atype := .int) 291 3328 (by decide) rfl tw_51 (hn6 291 (by decide) (by decide)) (by decide) xs0 (by decide +kernel) (by decide +kernel) (by decide +kernel) (show 91 + 1 ≤ 100 from by decide +kernel) (show 281960 + 3328 ≤ 288204 from by decide +kernel) d_X12_init_767 ?_
  refine aw_putrF (k0 := 120) kc_12 (ss_n hs5 (by decide)) (Nat.le_of_ble_eq_true rfl) tw_1862 d_X12_init_769 rfl rfl rfl rfl ?_
  have hs9 := ss_step (k := 291) (t := 0) (n := 3328) (c' := 1) (s := 120) (r := some 291) hs5 (by decide)
  have hn10 := nn_step (k := 291) (t := 0) (n := 3328) (c := 1) (s := 120) (r := some 291) hn6
  have tr11 := rr_step (k := 291) (t := 0) (n := 3328) (c := 1) (s := 120) (r := some 291) tr7 (by decide) (by decide)
  have ts12 := ss_step (k := 291) (t := 0) (n := 3328) (c' := 1) (s := 120) (r := some 291) ts8 (by decide)
  refine aw_aload_n (i := 0) rfl d_X12_init_772 0 rfl ?_
  refine aw_bipush (v := 48) d_X12_init_773 ib_48 ?_
  refine aw_newa (t := 0) (atype := .int) 292 48 (by decide) rfl tw_51 (hn10 292 (by decide) (by decide)) (by decide) xs0 (by decide +kernel) (by decide +kernel) (by decide +kernel) (show 92 + 1 ≤ 100 from by decide +kernel) (show 285288 + 48 ≤ 288204 from by decide +kernel) d_X12_init_775 ?_
  refine aw_putrF (k0 := 121) kc_12 (ss_n hs9 (by decide)) (Nat.le_of_ble_eq_true rfl) tw_1863 d_X12_init_777 rfl rfl rfl rfl ?_
  have hs13 := ss_step (k := 292) (t := 0) (n := 48) (c' := 1) (s := 121) (r := some 292) hs9 (by decide)
  have hn14 := nn_step (k := 292) (t := 0) (n := 48) (c := 1) (s := 121) (r := some 292) hn10
  have tr15 := rr_step (k := 292) (t := 0) (n := 48) (c := 1) (s := 121) (r := some 292) tr11 (by decide) (by decide)
  have ts16 := ss_step (k := 292) (t := 0) (n := 48) (c' := 1) (s := 121) (r := some 292) ts12 (by decide)
  refine aw_aload_n (i := 0) rfl d_X12_init_780 0 rfl ?_
  refine aw_sipush (v := 372) d_X12_init_781 is_372 ?_
  refine aw_newa (t := 0) (atype := .int) 293 372 (by decide) rfl tw_51 (hn14 293 (by decide) (by decide)) (by decide) xs0 (by decide +kernel) (by decide +kernel) (by decide +kernel) (show 93 + 1 ≤ 100 from by decide +kernel) (show 285336 + 372 ≤ 288204 from by decide +kernel) d_X12_init_784 ?_
  refine aw_putrF (k0 := 122) kc_12 (ss_n hs13 (by decide)) (Nat.le_of_ble_eq_true rfl) tw_1864 d_X12_init_786 rfl rfl rfl rfl ?_
  have hs17 := ss_step (k := 293) (t := 0) (n := 372) (c' := 1) (s := 122) (r := some 293) hs13 (by decide)
  have hn18 := nn_step (k := 293) (t := 0) (n := 372) (c := 1) (s := 122) (r := some 293) hn14
  have tr19 := rr_step (k := 293) (t := 0) (n := 372) (c := 1) (s := 122) (r := some 293) tr15 (by decide) (by decide)
  have ts20 := ss_step (k := 293) (t := 0) (n := 372) (c' := 1) (s := 122) (r := some 293) ts16 (by decide)
  refine aw_aload_n (i := 0) rfl d_X12_init_789 0 rfl ?_
  refine aw_sipush (v := 600) d_X12_init_790 is_600 ?_
  refine aw_newa (t := 0) (atype := .int) 294 600 (by decide) rfl tw_51 (hn18 294 (by decide) (by decide)) (by decide) xs0 (by decide +kernel) (by decide +kernel) (by decide +kernel) (show 94 + 1 ≤ 100 from by decide +kernel) (show 285708 + 600 ≤ 288204 from by decide +kernel) d_X12_init_793 ?_
  refine aw_putrF (k0 := 123) kc_12 (ss_n hs17 (by decide)) (Nat.le_of_ble_eq_true rfl) tw_1865 d_X12_init_795 rfl rfl rfl rfl ?_
  have hs21 := ss_step (k := 294) (t := 0) (n := 600) (c' := 1) (s := 123) (r := some 294) hs17 (by decide)
  have hn22 := nn_step (k := 294) (t := 0) (n := 600) (c := 1) (s := 123) (r := some 294) hn18
  have tr23 := rr_step (k := 294) (t := 0) (n := 600) (c := 1) (s := 123) (r := some 294) tr19 (by decide) (by decide)
  have ts24 := ss_step (k := 294) (t := 0) (n := 600) (c' := 1) (s := 123) (r := some 294) ts20 (by decide)
  refine aw_aload_n (i := 0) rfl d_X12_init_798 0 rfl ?_
  refine aw_sipush (v := 600) d_X12_init_799 is_600 ?_
  refine aw_newa (t := 0) (atype := .int) 295 600 (by decide) rfl tw_51 (hn22 295 (by decide) (by decide)) (by decide) xs0 (by decide +kernel) (by decide +kernel) (by decide +kernel) (show 95 + 1 ≤ 100 from by decide +kernel) (show 286308 + 600 ≤ 288204 from by decide +kernel) d_X12_init_802 ?_
  refine aw_putrF (k0 := 124) kc_12 (ss_n hs21 (by decide)) (Nat.le_of_ble_eq_true rfl) tw_1866 d_X12_init_804 rfl rfl rfl rfl ?_
  have hs25 := ss_step (k := 295) (t := 0) (n := 600) (c' := 1) (s := 124) (r := some 295) hs21 (by decide)
  have hn26 := nn_step (k := 295) (t := 0) (n := 600) (c := 1) (s := 124) (r := some 295) hn22
  have tr27 := rr_step (k := 295) (t := 0) (n := 600) (c := 1) (s := 124) (r := some 295) tr23 (by decide) (by decide)
  have ts28 := ss_step (k := 295) (t := 0) (n := 600) (c' := 1) (s := 124) (r := some 295) ts24 (by decide)
  refine aw_aload_n (i := 0) rfl d_X12_init_807 0 rfl ?_
  refine aw_sipush (v := 600) d_X12_init_808 is_600 ?_
  refine aw_newa (t := 0) (atype := .int) 296 600 (by decide) rfl tw_51 (hn26 296 (by decide) (by decide)) (by decide) xs0 (by decide +kernel) (by decide +kernel) (by decide +kernel) (show 96 + 1 ≤ 100 from by decide +kernel) (show 286908 + 600 ≤ 288204 from by decide +kernel) d_X12_init_811 ?_
  refine aw_putrF (k0 := 125) kc_12 (ss_n hs25 (by decide)) (Nat.le_of_ble_eq_true rfl) tw_1867 d_X12_init_813 rfl rfl rfl rfl ?_
  have hs29 := ss_step (k := 296) (t := 0) (n := 600) (c' := 1) (s := 125) (r := some 296) hs25 (by decide)
  have hn30 := nn_step (k := 296) (t := 0) (n := 600) (c := 1) (s := 125) (r := some 296) hn26
  have tr31 := rr_step (k := 296) (t := 0) (n := 600) (c := 1) (s := 125) (r := some 296) tr27 (by decide) (by decide)
  have ts32 := ss_step (k := 296) (t := 0) (n := 600) (c' := 1) (s := 125) (r := some 296) ts28 (by decide)
  refine aw_aload_n (i := 0) rfl d_X12_init_816 0 rfl ?_
  refine aw_sipush (v := 600) d_X12_init_817 is_600 ?_
  refine aw_newa (t := 0) (atype := .int) 297 600 (by decide) rfl tw_51 (hn30 297 (by decide) (by decide)) (by decide) xs0 (by decide +kernel) (by decide +kernel) (by decide +kernel) (show 97 + 1 ≤ 100 from by decide +kernel) (show 287508 + 600 ≤ 288204 from by decide +kernel) d_X12_init_820 ?_
  refine aw_putrF (k0 := 126) kc_12 (ss_n hs29 (by decide)) (Nat.le_of_ble_eq_true rfl) tw_1868 d_X12_init_822 rfl rfl rfl rfl ?_
  have hs33 := ss_step (k := 297) (t := 0) (n := 600) (c' := 1) (s := 126) (r := some 297) hs29 (by decide)
  have hn34 := nn_step (k := 297) (t := 0) (n := 600) (c := 1) (s := 126) (r := some 297) hn30
  have tr35 := rr_step (k := 297) (t := 0) (n := 600) (c := 1) (s := 126) (r := some 297) tr31 (by decide) (by decide)
  have ts36 := ss_step (k := 297) (t := 0) (n := 600) (c' := 1) (s := 126) (r := some 297) ts32 (by decide)
  refine aw_aload_n (i := 0) rfl d_X12_init_825 0 rfl ?_
  refine aw_bipush (v := 48) d_X12_init_826 ib_48 ?_
  refine aw_newa (t := 0) (atype := .int) 298 48 (by decide) rfl tw_51 (hn34 298 (by decide) (by decide)) (by decide) xs0 (by decide +kernel) (by decide +kernel) (by decide +kernel) (show 98 + 1 ≤ 100 from by decide +kernel) (show 288108 + 48 ≤ 288204 from by decide +kernel) d_X12_init_828 ?_
  refine aw_putrF (k0 := 128) kc_12 (ss_n hs33 (by decide)) (Nat.le_of_ble_eq_true rfl) tw_1870 d_X12_init_830 rfl rfl rfl rfl ?_
  have hs37 := ss_step (k := 298) (t := 0) (n := 48) (c' := 1) (s := 128) (r := some 298) hs33 (by decide)
  have hn38 := nn_step (k := 298) (t := 0) (n := 48) (c := 1) (s := 128) (r := some 298) hn34
  have tr39 := rr_step (k := 298) (t := 0) (n := 48) (c := 1) (s := 128) (r := some 298) tr35 (by decide) (by decide)
  have ts40 := ss_step (k := 298) (t := 0) (n := 48) (c' := 1) (s := 128) (r := some 298) ts36 (by decide)
  refine aw_aload_n (i := 0) rfl d_X12_init_833 0 rfl ?_
  refine aw_bipush (v := 48) d_X12_init_834 ib_48 ?_
  refine aw_newa (t := 1) (atype := .boolean) 299 48 (by decide) rfl tw_252 (hn38 299 (by decide) (by decide)) (by decide) xs0 (by decide +kernel) (by decide +kernel) (by decide +kernel) (show 99 + 1 ≤ 100 from by decide +kernel) (show 288156 + 48 ≤ 288204 from by decide +kernel) d_X12_init_836 ?_
  refine aw_putrF (k0 := 129) kc_12 (ss_n hs37 (by decide)) (Nat.le_of_ble_eq_true rfl) tw_1871 d_X12_init_838 rfl rfl rfl rfl ?_
  have hs41 := ss_step (k := 299) (t := 1) (n := 48) (c' := 1) (s := 129) (r := some 299) hs37 (by decide)
  have hn42 := nn_step (k := 299) (t := 1) (n := 48) (c := 1) (s := 129) (r := some 299) hn38
  have tr43 := rr_step (k := 299) (t := 1) (n := 48) (c := 1) (s := 129) (r := some 299) tr39 (by decide) (by decide)
  have ts44 := ss_step (k := 299) (t := 1) (n := 48) (c' := 1) (s := 129) (r := some 299) ts40 (by decide)
  refine aw_aload_n (i := 0) rfl d_X12_init_841 0 rfl ?_
  refine aw_iconst (v := 3) d_X12_init_842 ic_3 ?_
  refine aw_puti (k0 := 130) kc_12 hs41 (Nat.le_of_ble_eq_true rfl) tw_1872 d_X12_init_843 rfl rfl nf_i ?_
  have hs45 := ss_im (a := 1) (k := 130) (x := 3) hs41
  have hn46 := nn_im (b := 1) (k := 130) (x := 3) hn42
  have tr47 := rr_im (a := 1) (k := 130) (x := 3) tr43
  have ts48 := ss_im (a := 1) (k := 130) (x := 3) ts44
  exact k
noncomputable def CH_1 (h : Hp_) : Hp_ := h_im (h_im (h_im (h_im (h_im (h_im (h_im (h_im (CC_6 (CC_5 (CC_4 (CC_3 (CC_2 (CC_1 (CC_0 h))))))) 265 ((0 : Int32).toNatClampNeg) 1) 265 ((1 : Int32).toNatClampNeg) 1) 265 ((2 : Int32).toNatClampNeg) 1) 265 ((3 : Int32).toNatClampNeg) 1) 265 ((4 : Int32).toNatClampNeg) 1) 265 ((5 : Int32).toNatClampNeg) 1) 265 ((6 : Int32).toNatClampNeg) 1) 265 ((7 : Int32).toNatClampNeg) 1
theorem k_X12_init_1 (d : Nat) (h : Hp_) (hs : h_sh h 1 = some (22, 131)) (hn : ∀ a, 200 ≤ a → a < 300 → h_sh h a = none) : Cv (m_X12_init (d + 1) 100 288204) [.ref 1] h (fun h' => h' = CH_1 h) := by
  refine Ct.of (fun _ _ _ => trivial) pn_X12 (Nat.le_of_ble_eq_true rfl) ?_
  show AW (m_X12_init (d + 1) 100 288204) 0 0 0 [(0, .ref 1)] [] h (kV _)
  refine aw_aload_n (i := 0) rfl d_X12_init_0 0 rfl ?_
  refine aw_objInit (rest := []) d_X12_init_1 tw_1740 tw_33 tw_34 (show 1 ≤ d + 1 by omega) (show 0 + 12 ≤ 100 * (d + 1) by omega) ?_
  have q0 := cf_0 h hs hn
  refine ck_0 d h _ hs hn ?_
  have q1 := cf_1 (CC_0 h) q0.1 q0.2
  refine ck_1 d (CC_0 h) _ q0.1 q0.2 ?_
  have q2 := cf_2 (CC_1 (CC_0 h)) q1.1 q1.2
  refine ck_2 d (CC_1 (CC_0 h)) _ q1.1 q1.2 ?_
  have q3 := cf_3 (CC_2 (CC_1 (CC_0 h))) q2.1 q2.2
  refine ck_3 d (CC_2 (CC_1 (CC_0 h))) _ q2.1 q2.2 ?_
  have q4 := cf_4 (CC_3 (CC_2 (CC_1 (CC_0 h)))) q3.1 q3.2
  refine ck_4 d (CC_3 (CC_2 (CC_1 (CC_0 h)))) _ q3.1 q3.2 ?_
  have q5 := cf_5 (CC_4 (CC_3 (CC_2 (CC_1 (CC_0 h))))) q4.1 q4.2.1 q4.2.2.1 q4.2.2.2
  refine ck_5 d (CC_4 (CC_3 (CC_2 (CC_1 (CC_0 h))))) _ q4.1 q4.2.1 q4.2.2.1 q4.2.2.2 ?_
  have q6 := cf_6 (CC_5 (CC_4 (CC_3 (CC_2 (CC_1 (CC_0 h)))))) q5.1 q5.2.1 q5.2.2.1 q5.2.2.2
  refine ck_6 d (CC_5 (CC_4 (CC_3 (CC_2 (CC_1 (CC_0 h)))))) _ q5.1 q5.2.1 q5.2.2.1 q5.2.2.2 ?_
  have hs0 := q6.1
  have tr0 := q6.2.2.1
  have ts0 := q6.2.2.2
  generalize hB : CC_6 (CC_5 (CC_4 (CC_3 (CC_2 (CC_1 (CC_0 h)))))) = B at hs0 tr0 ts0 ⊢
  refine aw_iconst (v := 0) d_X12_init_846 ic_0 ?_
  refine aw_istore_n (i := 1) rfl [(0, .ref 1), (1, .int 0)] d_X12_init_847 (Nat.le_of_ble_eq_true rfl) rfl rfl ?_
  refine aw_iload_n (i := 1) rfl d_X12_init_848 1 rfl ?_
  refine aw_bipush (v := 8) d_X12_init_849 ib_8 ?_
  refine aw_icmp_ge (tgt := 867) d_X12_init_851 rfl (fun c => absurd c (by decide)) (fun _ => ?_)
  refine aw_aload_n (i := 0) rfl d_X12_init_854 0 rfl ?_
  refine aw_getr (k0 := 84) (b := 265) kc_12 hs0 (Nat.le_of_ble_eq_true rfl) tw_1826 d_X12_init_855 rfl tr0 ?_
  refine aw_iload_n (i := 1) rfl d_X12_init_858 1 rfl ?_
  refine aw_iconst (v := 1) d_X12_init_859 ic_1 ?_
  refine aw_iast (n := 8) ts0 (vin_c (by decide)) d_X12_init_860 ?_
  have hs1 := ss_im (a := 265) (k := ((0 : Int32).toNatClampNeg)) (x := 1) hs0
  have tr1 := rr_im (a := 265) (k := ((0 : Int32).toNatClampNeg)) (x := 1) tr0
  have ts1 := ss_im (a := 265) (k := ((0 : Int32).toNatClampNeg)) (x := 1) ts0
  refine aw_iinc (v := 1) [(0, .ref 1), (1, .int 1)] d_X12_init_861 1 rfl (by decide) (Nat.le_of_ble_eq_true rfl) rfl rfl ?_
  refine aw_goto (tgt := 848) d_X12_init_864 rfl ?_
  refine aw_iload_n (i := 1) rfl d_X12_init_848 1 rfl ?_
  refine aw_bipush (v := 8) d_X12_init_849 ib_8 ?_
  refine aw_icmp_ge (tgt := 867) d_X12_init_851 rfl (fun c => absurd c (by decide)) (fun _ => ?_)
  refine aw_aload_n (i := 0) rfl d_X12_init_854 0 rfl ?_
  refine aw_getr (k0 := 84) (b := 265) kc_12 hs1 (Nat.le_of_ble_eq_true rfl) tw_1826 d_X12_init_855 rfl tr1 ?_
  refine aw_iload_n (i := 1) rfl d_X12_init_858 1 rfl ?_
  refine aw_iconst (v := 1) d_X12_init_859 ic_1 ?_
  refine aw_iast (n := 8) ts1 (vin_c (by decide)) d_X12_init_860 ?_
  have hs2 := ss_im (a := 265) (k := ((1 : Int32).toNatClampNeg)) (x := 1) hs1
  have tr2 := rr_im (a := 265) (k := ((1 : Int32).toNatClampNeg)) (x := 1) tr1
  have ts2 := ss_im (a := 265) (k := ((1 : Int32).toNatClampNeg)) (x := 1) ts1
  refine aw_iinc (v := 2) [(0, .ref 1), (1, .int 2)] d_X12_init_861 1 rfl (by decide) (Nat.le_of_ble_eq_true rfl) rfl rfl ?_
  refine aw_goto (tgt := 848) d_X12_init_864 rfl ?_
  refine aw_iload_n (i := 1) rfl d_X12_init_848 1 rfl ?_
  refine aw_bipush (v := 8) d_X12_init_849 ib_8 ?_
  refine aw_icmp_ge (tgt := 867) d_X12_init_851 rfl (fun c => absurd c (by decide)) (fun _ => ?_)
  refine aw_aload_n (i := 0) rfl d_X12_init_854 0 rfl ?_
  refine aw_getr (k0 := 84) (b := 265) kc_12 hs2 (Nat.le_of_ble_eq_true rfl) tw_1826 d_X12_init_855 rfl tr2 ?_
  refine aw_iload_n (i := 1) rfl d_X12_init_858 1 rfl ?_
  refine aw_iconst (v := 1) d_X12_init_859 ic_1 ?_
  refine aw_iast (n := 8) ts2 (vin_c (by decide)) d_X12_init_860 ?_
  have hs3 := ss_im (a := 265) (k := ((2 : Int32).toNatClampNeg)) (x := 1) hs2
  have tr3 := rr_im (a := 265) (k := ((2 : Int32).toNatClampNeg)) (x := 1) tr2
  have ts3 := ss_im (a := 265) (k := ((2 : Int32).toNatClampNeg)) (x := 1) ts2
  refine aw_iinc (v := 3) [(0, .ref 1), (1, .int 3)] d_X12_init_861 1 rfl (by decide) (Nat.le_of_ble_eq_true rfl) rfl rfl ?_
  refine aw_goto (tgt := 848) d_X12_init_864 rfl ?_
  refine aw_iload_n (i := 1) rfl d_X12_init_848 1 rfl ?_
  refine aw_bipush (v := 8) d_X12_init_849 ib_8 ?_
  refine aw_icmp_ge (tgt := 867) d_X12_init_851 rfl (fun c => absurd c (by decide)) (fun _ => ?_)
  refine aw_aload_n (i := 0) rfl d_X12_init_854 0 rfl ?_
  refine aw_getr (k0 := 84) (b := 265) kc_12 hs3 (Nat.le_of_ble_eq_true rfl) tw_1826 d_X12_init_855 rfl tr3 ?_
  refine aw_iload_n (i := 1) rfl d_X12_init_858 1 rfl ?_
  refine aw_iconst (v := 1) d_X12_init_859 ic_1 ?_
  refine aw_iast (n := 8) ts3 (vin_c (by decide)) d_X12_init_860 ?_
  have hs4 := ss_im (a := 265) (k := ((3 : Int32).toNatClampNeg)) (x := 1) hs3
  have tr4 := rr_im (a := 265) (k := ((3 : Int32).toNatClampNeg)) (x := 1) tr3
  have ts4 := ss_im (a := 265) (k := ((3 : Int32).toNatClampNeg)) (x := 1) ts3
  refine aw_iinc (v := 4) [(0, .ref 1), (1, .int 4)] d_X12_init_861 1 rfl (by decide) (Nat.le_of_ble_eq_true rfl) rfl rfl ?_
  refine aw_goto (tgt := 848) d_X12_init_864 rfl ?_
  refine aw_iload_n (i := 1) rfl d_X12_init_848 1 rfl ?_
  refine aw_bipush (v := 8) d_X12_init_849 ib_8 ?_
  refine aw_icmp_ge (tgt := 867) d_X12_init_851 rfl (fun c => absurd c (by decide)) (fun _ => ?_)
  refine aw_aload_n (i := 0) rfl d_X12_init_854 0 rfl ?_
  refine aw_getr (k0 := 84) (b := 265) kc_12 hs4 (Nat.le_of_ble_eq_true rfl) tw_1826 d_X12_init_855 rfl tr4 ?_
  refine aw_iload_n (i := 1) rfl d_X12_init_858 1 rfl ?_
  refine aw_iconst (v := 1) d_X12_init_859 ic_1 ?_
  refine aw_iast (n := 8) ts4 (vin_c (by decide)) d_X12_init_860 ?_
  have hs5 := ss_im (a := 265) (k := ((4 : Int32).toNatClampNeg)) (x := 1) hs4
  have tr5 := rr_im (a := 265) (k := ((4 : Int32).toNatClampNeg)) (x := 1) tr4
  have ts5 := ss_im (a := 265) (k := ((4 : Int32).toNatClampNeg)) (x := 1) ts4
  refine aw_iinc (v := 5) [(0, .ref 1), (1, .int 5)] d_X12_init_861 1 rfl (by decide) (Nat.le_of_ble_eq_true rfl) rfl rfl ?_
  refine aw_goto (tgt := 848) d_X12_init_864 rfl ?_
  refine aw_iload_n (i := 1) rfl d_X12_init_848 1 rfl ?_
  refine aw_bipush (v := 8) d_X12_init_849 ib_8 ?_
  refine aw_icmp_ge (tgt := 867) d_X12_init_851 rfl (fun c => absurd c (by decide)) (fun _ => ?_)
  refine aw_aload_n (i := 0) rfl d_X12_init_854 0 rfl ?_
  refine aw_getr (k0 := 84) (b := 265) kc_12 hs5 (Nat.le_of_ble_eq_true rfl) tw_1826 d_X12_init_855 rfl tr5 ?_
  refine aw_iload_n (i := 1) rfl d_X12_init_858 1 rfl ?_
  refine aw_iconst (v := 1) d_X12_init_859 ic_1 ?_
  refine aw_iast (n := 8) ts5 (vin_c (by decide)) d_X12_init_860 ?_
  have hs6 := ss_im (a := 265) (k := ((5 : Int32).toNatClampNeg)) (x := 1) hs5
  have tr6 := rr_im (a := 265) (k := ((5 : Int32).toNatClampNeg)) (x := 1) tr5
  have ts6 := ss_im (a := 265) (k := ((5 : Int32).toNatClampNeg)) (x := 1) ts5
  refine aw_iinc (v := 6) [(0, .ref 1), (1, .int 6)] d_X12_init_861 1 rfl (by decide) (Nat.le_of_ble_eq_true rfl) rfl rfl ?_
  refine aw_goto (tgt := 848) d_X12_init_864 rfl ?_
  refine aw_iload_n (i := 1) rfl d_X12_init_848 1 rfl ?_
  refine aw_bipush (v := 8) d_X12_init_849 ib_8 ?_
  refine aw_icmp_ge (tgt := 867) d_X12_init_851 rfl (fun c => absurd c (by decide)) (fun _ => ?_)
  refine aw_aload_n (i := 0) rfl d_X12_init_854 0 rfl ?_
  refine aw_getr (k0 := 84) (b := 265) kc_12 hs6 (Nat.le_of_ble_eq_true rfl) tw_1826 d_X12_init_855 rfl tr6 ?_
  refine aw_iload_n (i := 1) rfl d_X12_init_858 1 rfl ?_
  refine aw_iconst (v := 1) d_X12_init_859 ic_1 ?_
  refine aw_iast (n := 8) ts6 (vin_c (by decide)) d_X12_init_860 ?_
  have hs7 := ss_im (a := 265) (k := ((6 : Int32).toNatClampNeg)) (x := 1) hs6
  have tr7 := rr_im (a := 265) (k := ((6 : Int32).toNatClampNeg)) (x := 1) tr6
  have ts7 := ss_im (a := 265) (k := ((6 : Int32).toNatClampNeg)) (x := 1) ts6
  refine aw_iinc (v := 7) [(0, .ref 1), (1, .int 7)] d_X12_init_861 1 rfl (by decide) (Nat.le_of_ble_eq_true rfl) rfl rfl ?_
  refine aw_goto (tgt := 848) d_X12_init_864 rfl ?_
  refine aw_iload_n (i := 1) rfl d_X12_init_848 1 rfl ?_
  refine aw_bipush (v := 8) d_X12_init_849 ib_8 ?_
  refine aw_icmp_ge (tgt := 867) d_X12_init_851 rfl (fun c => absurd c (by decide)) (fun _ => ?_)
  refine aw_aload_n (i := 0) rfl d_X12_init_854 0 rfl ?_
  refine aw_getr (k0 := 84) (b := 265) kc_12 hs7 (Nat.le_of_ble_eq_true rfl) tw_1826 d_X12_init_855 rfl tr7 ?_
  refine aw_iload_n (i := 1) rfl d_X12_init_858 1 rfl ?_
  refine aw_iconst (v := 1) d_X12_init_859 ic_1 ?_
  refine aw_iast (n := 8) ts7 (vin_c (by decide)) d_X12_init_860 ?_
  have hs8 := ss_im (a := 265) (k := ((7 : Int32).toNatClampNeg)) (x := 1) hs7
  have tr8 := rr_im (a := 265) (k := ((7 : Int32).toNatClampNeg)) (x := 1) tr7
  have ts8 := ss_im (a := 265) (k := ((7 : Int32).toNatClampNeg)) (x := 1) ts7
  refine aw_iinc (v := 8) [(0, .ref 1), (1, .int 8)] d_X12_init_861 1 rfl (by decide) (Nat.le_of_ble_eq_true rfl) rfl rfl ?_
  refine aw_goto (tgt := 848) d_X12_init_864 rfl ?_
  refine aw_iload_n (i := 1) rfl d_X12_init_848 1 rfl ?_
  refine aw_bipush (v := 8) d_X12_init_849 ib_8 ?_
  refine aw_icmp_ge (tgt := 867) d_X12_init_851 rfl (fun _ => ?_) (fun c => absurd c (by decide))
  rw [← hB]
  exact aw_vret rfl d_X12_init_867 ⟨show 100 ≤ 100 from Nat.le_refl _, show 288204 ≤ 288204 from Nat.le_refl _⟩ ⟨rfl, rfl⟩
end
section
noncomputable def hE : Hp_ := (fun _ => none, fun _ _ => 0, fun _ _ => 0, fun _ _ => none)
noncomputable def G0 : Hp_ := h_nw hE 0 21 16
theorem rng_none {h : Hp_} {lo hi : Nat} (hc : (List.range (hi - lo)).all (fun i => (h_sh h (lo + i)).isNone) = true) : ∀ a, lo ≤ a → a < hi → h_sh h a = none := by
  intro a h1 h2
  have z := List.all_eq_true.mp hc (a - lo) (List.mem_range.mpr (by omega))
  rw [show lo + (a - lo) = a from by omega] at z
  exact Option.isNone_iff_eq_none.mp z
noncomputable def G1 : Hp_ := h_nw G0 10 19 2
noncomputable def G2 : Hp_ := CH_10 G1
noncomputable def G3 : Hp_ := h_rm G2 0 1 (some 10)
noncomputable def G4 : Hp_ := h_nw G3 11 18 10
noncomputable def G5 : Hp_ := CH_11 G4
noncomputable def G6 : Hp_ := h_rm G5 0 2 (some 11)
noncomputable def G7 : Hp_ := h_nw G6 12 10 4
noncomputable def G8 : Hp_ := CH_12 G7
noncomputable def G9 : Hp_ := h_rm G8 0 3 (some 12)
noncomputable def G10 : Hp_ := h_nw G9 13 20 6
noncomputable def G11 : Hp_ := CH_13 G10
noncomputable def G12 : Hp_ := h_rm G11 0 4 (some 13)
noncomputable def G13 : Hp_ := h_nw G12 14 20 6
noncomputable def G14 : Hp_ := CH_14 G13
noncomputable def G15 : Hp_ := h_rm G14 0 5 (some 14)
noncomputable def G16 : Hp_ := h_nw G15 15 4 12
noncomputable def G17 : Hp_ := h_rm G16 0 6 (some 15)
noncomputable def G18 : Hp_ := h_nw G17 16 17 12
noncomputable def G19 : Hp_ := CH_16 G18
noncomputable def G20 : Hp_ := h_rm G19 0 8 (some 16)
noncomputable def G21 : Hp_ := h_nw G20 17 14 17
noncomputable def G22 : Hp_ := CH_17 G21
noncomputable def G23 : Hp_ := h_rm G22 0 9 (some 17)
noncomputable def G24 : Hp_ := h_nw G23 18 11 16
noncomputable def G25 : Hp_ := CH_18 G24
noncomputable def G26 : Hp_ := h_rm G25 0 10 (some 18)
noncomputable def G27 : Hp_ := h_nw G26 19 13 11
noncomputable def G28 : Hp_ := CH_19 G27
noncomputable def G29 : Hp_ := h_rm G28 0 11 (some 19)
noncomputable def G30 : Hp_ := h_nw G29 20 16 20
noncomputable def G31 : Hp_ := CH_20 G30
noncomputable def G32 : Hp_ := h_rm G31 0 12 (some 20)
noncomputable def G33 : Hp_ := h_nw G32 21 15 16
noncomputable def G34 : Hp_ := CH_21 G33
noncomputable def G35 : Hp_ := h_rm G34 0 13 (some 21)
noncomputable def G36 : Hp_ := h_nw G35 400 3 0
noncomputable def G37 : Hp_ := h_rm G36 0 15 (some 400)
theorem k_X11_init_0 (d : Nat) : Cv (m_X11_init (d + 2) 99 30357) [.ref 0] G0 (fun h' => h' = G37) := by
  refine Ct.of (fun _ _ _ => trivial) pn_X11 (Nat.le_of_ble_eq_true rfl) ?_
  show AW (m_X11_init (d + 2) 99 30357) 0 0 0 [(0, .ref 0)] [] G0 (kV _)
  refine aw_aload_n (i := 0) rfl d_X11_init_0 0 rfl ?_
  refine aw_objInit (rest := []) d_X11_init_1 tw_32 tw_33 tw_34 (show 1 ≤ d + 2 by omega) (show 0 + 12 ≤ 100 * (d + 2) by omega) ?_
  refine aw_aload_n (i := 0) rfl d_X11_init_4 0 rfl ?_
  refine aw_new (ci := 9) 10 kc_9 tw_35 tw_36 tw_2 (by decide +kernel) (by decide) xs0 (show 0 + 1 ≤ 99 from by decide +kernel) (show 0 + 2 ≤ 30357 from by decide +kernel) d_X11_init_5 ?_
  show AW (m_X11_init (d + 2) 99 30357) 1 2 8 [(0, .ref 0)] [.ref 10, .ref 0] G1 (kV _)
  refine aw_dup d_X11_init_8 rfl ?_
  refine aw_callI (vs := []) (a := 10) (rest := [.ref 10, .ref 0]) d_X11_init_9 (cI_X9_init (d + 1) 1 256) ⟨rfl, rfl⟩ tw_38 tw_37 rfl ⟨show d + 1 + 1 ≤ d + 2 by omega, show 8 + (2 + 11) + 100 * (d + 1) ≤ 100 * (d + 2) by omega⟩ (by decide) ⟨show 1 + 1 ≤ 99 from by decide +kernel, show 2 + 256 ≤ 30357 from by decide +kernel⟩ xs0 (k_X9_init_10 d G1 (by decide +kernel) (rng_none (by decide +kernel))) (fun v h9 kk => ?_)
  obtain ⟨rfl, rfl⟩ := kk
  show AW (m_X11_init (d + 2) 99 30357) 2 258 12 [(0, .ref 0)] [.ref 10, .ref 0] G2 (kV _)
  refine aw_putrF (k0 := 1) kc_11 (by decide +kernel) (Nat.le_of_ble_eq_true rfl) tw_488 d_X11_init_12 rfl rfl rfl rfl ?_
  show AW (m_X11_init (d + 2) 99 30357) 2 258 15 [(0, .ref 0)] [] G3 (kV _)
  refine aw_aload_n (i := 0) rfl d_X11_init_15 0 rfl ?_
  refine aw_new (ci := 8) 11 kc_8 tw_52 tw_53 tw_3 (by decide +kernel) (by decide) xs0 (show 2 + 1 ≤ 99 from by decide +kernel) (show 258 + 10 ≤ 30357 from by decide +kernel) d_X11_init_16 ?_
  show AW (m_X11_init (d + 2) 99 30357) 3 268 19 [(0, .ref 0)] [.ref 11, .ref 0] G4 (kV _)
  refine aw_dup d_X11_init_19 rfl ?_
  refine aw_callIN (vs := []) (a := 11) (rest := [.ref 11, .ref 0]) d_X11_init_20 (cI_X8_init (d + 1) 3 474) ⟨rfl, rfl⟩ tw_55 (List.mem_of_getElem? (i := 0) rfl) rfl ⟨show d + 1 + 1 ≤ d + 2 by omega, show 8 + (1 + 11) + 100 * (d + 1) ≤ 100 * (d + 2) by omega⟩ (by decide) ⟨show 3 + 3 ≤ 99 from by decide +kernel, show 268 + 474 ≤ 30357 from by decide +kernel⟩ xs0 (k_X8_init_11 d G4 (by decide +kernel) (rng_none (by decide +kernel))) (fun v h9 kk => ?_)
  obtain ⟨rfl, rfl⟩ := kk
  show AW (m_X11_init (d + 2) 99 30357) 6 742 23 [(0, .ref 0)] [.ref 11, .ref 0] G5 (kV _)
  refine aw_putrF (k0 := 2) kc_11 (by decide +kernel) (Nat.le_of_ble_eq_true rfl) tw_489 d_X11_init_23 rfl rfl rfl rfl ?_
  show AW (m_X11_init (d + 2) 99 30357) 6 742 26 [(0, .ref 0)] [] G6 (kV _)
  refine aw_aload_n (i := 0) rfl d_X11_init_26 0 rfl ?_
  refine aw_new (ci := 0) 12 kc_0 tw_97 tw_98 tw_4 (by decide +kernel) (by decide) xs0 (show 6 + 1 ≤ 99 from by decide +kernel) (show 742 + 4 ≤ 30357 from by decide +kernel) d_X11_init_27 ?_
  show AW (m_X11_init (d + 2) 99 30357) 7 746 30 [(0, .ref 0)] [.ref 12, .ref 0] G7 (kV _)
  refine aw_dup d_X11_init_30 rfl ?_
  refine aw_callIN (vs := []) (a := 12) (rest := [.ref 12, .ref 0]) d_X11_init_31 (cI_X0_init (d + 1) 3 1824) ⟨rfl, rfl⟩ tw_100 (List.mem_of_getElem? (i := 1) rfl) rfl ⟨show d + 1 + 1 ≤ d + 2 by omega, show 8 + (1 + 11) + 100 * (d + 1) ≤ 100 * (d + 2) by omega⟩ (by decide) ⟨show 7 + 3 ≤ 99 from by decide +kernel, show 746 + 1824 ≤ 30357 from by decide +kernel⟩ xs0 (k_X0_init_12 d G7 (by decide +kernel) (rng_none (by decide +kernel))) (fun v h9 kk => ?_)
  obtain ⟨rfl, rfl⟩ := kk
  show AW (m_X11_init (d + 2) 99 30357) 10 2570 34 [(0, .ref 0)] [.ref 12, .ref 0] G8 (kV _)
  refine aw_putrF (k0 := 3) kc_11 (by decide +kernel) (Nat.le_of_ble_eq_true rfl) tw_490 d_X11_init_34 rfl rfl rfl rfl ?_
  show AW (m_X11_init (d + 2) 99 30357) 10 2570 37 [(0, .ref 0)] [] G9 (kV _)
  refine aw_aload_n (i := 0) rfl d_X11_init_37 0 rfl ?_
  refine aw_new (ci := 10) 13 kc_10 tw_118 tw_119 tw_5 (by decide +kernel) (by decide) xs0 (show 10 + 1 ≤ 99 from by decide +kernel) (show 2570 + 6 ≤ 30357 from by decide +kernel) d_X11_init_38 ?_
  show AW (m_X11_init (d + 2) 99 30357) 11 2576 41 [(0, .ref 0)] [.ref 13, .ref 0] G10 (kV _)
  refine aw_dup d_X11_init_41 rfl ?_
  refine aw_callIN (vs := []) (a := 13) (rest := [.ref 13, .ref 0]) d_X11_init_42 (cI_X10_init (d + 1) 5 3504) ⟨rfl, rfl⟩ tw_121 (List.mem_of_getElem? (i := 2) rfl) rfl ⟨show d + 1 + 1 ≤ d + 2 by omega, show 8 + (1 + 11) + 100 * (d + 1) ≤ 100 * (d + 2) by omega⟩ (by decide) ⟨show 11 + 5 ≤ 99 from by decide +kernel, show 2576 + 3504 ≤ 30357 from by decide +kernel⟩ xs0 (k_X10_init_13 d G10 (by decide +kernel) (rng_none (by decide +kernel))) (fun v h9 kk => ?_)
  obtain ⟨rfl, rfl⟩ := kk
  show AW (m_X11_init (d + 2) 99 30357) 16 6080 45 [(0, .ref 0)] [.ref 13, .ref 0] G11 (kV _)
  refine aw_putrF (k0 := 4) kc_11 (by decide +kernel) (Nat.le_of_ble_eq_true rfl) tw_491 d_X11_init_45 rfl rfl rfl rfl ?_
  show AW (m_X11_init (d + 2) 99 30357) 16 6080 48 [(0, .ref 0)] [] G12 (kV _)
  refine aw_aload_n (i := 0) rfl d_X11_init_48 0 rfl ?_
  refine aw_new (ci := 10) 14 kc_10 tw_118 tw_119 tw_5 (by decide +kernel) (by decide) xs0 (show 16 + 1 ≤ 99 from by decide +kernel) (show 6080 + 6 ≤ 30357 from by decide +kernel) d_X11_init_49 ?_
  show AW (m_X11_init (d + 2) 99 30357) 17 6086 52 [(0, .ref 0)] [.ref 14, .ref 0] G13 (kV _)
  refine aw_dup d_X11_init_52 rfl ?_
  refine aw_callIN (vs := []) (a := 14) (rest := [.ref 14, .ref 0]) d_X11_init_53 (cI_X10_init (d + 1) 5 3504) ⟨rfl, rfl⟩ tw_121 (List.mem_of_getElem? (i := 2) rfl) rfl ⟨show d + 1 + 1 ≤ d + 2 by omega, show 8 + (1 + 11) + 100 * (d + 1) ≤ 100 * (d + 2) by omega⟩ (by decide) ⟨show 17 + 5 ≤ 99 from by decide +kernel, show 6086 + 3504 ≤ 30357 from by decide +kernel⟩ xs0 (k_X10_init_14 d G13 (by decide +kernel) (rng_none (by decide +kernel))) (fun v h9 kk => ?_)
  obtain ⟨rfl, rfl⟩ := kk
  show AW (m_X11_init (d + 2) 99 30357) 22 9590 56 [(0, .ref 0)] [.ref 14, .ref 0] G14 (kV _)
  refine aw_putrF (k0 := 5) kc_11 (by decide +kernel) (Nat.le_of_ble_eq_true rfl) tw_492 d_X11_init_56 rfl rfl rfl rfl ?_
  show AW (m_X11_init (d + 2) 99 30357) 22 9590 59 [(0, .ref 0)] [] G15 (kV _)
  refine aw_aload_n (i := 0) rfl d_X11_init_59 0 rfl ?_
  refine aw_bipush (v := 12) d_X11_init_60 ib_12 ?_
  refine aw_newq 15 12 tw_144 (by decide +kernel) (by decide) xs0 (by decide) (by decide) (by decide) (show 22 + 1 ≤ 99 from by decide +kernel) (show 9590 + 12 ≤ 30357 from by decide +kernel) d_X11_init_62 ?_
  show AW (m_X11_init (d + 2) 99 30357) 23 9602 65 [(0, .ref 0)] [.ref 15, .ref 0] G16 (kV _)
  refine aw_putrF (k0 := 6) kc_11 (by decide +kernel) (Nat.le_of_ble_eq_true rfl) tw_493 d_X11_init_65 rfl rfl rfl rfl ?_
  show AW (m_X11_init (d + 2) 99 30357) 23 9602 68 [(0, .ref 0)] [] G17 (kV _)
  refine aw_aload_n (i := 0) rfl d_X11_init_68 0 rfl ?_
  refine aw_new (ci := 7) 16 kc_7 tw_146 tw_147 tw_6 (by decide +kernel) (by decide) xs0 (show 23 + 1 ≤ 99 from by decide +kernel) (show 9602 + 12 ≤ 30357 from by decide +kernel) d_X11_init_69 ?_
  show AW (m_X11_init (d + 2) 99 30357) 24 9614 72 [(0, .ref 0)] [.ref 16, .ref 0] G18 (kV _)
  refine aw_dup d_X11_init_72 rfl ?_
  refine aw_callIN (vs := []) (a := 16) (rest := [.ref 16, .ref 0]) d_X11_init_73 (cI_X7_init (d + 1) 10 3400) ⟨rfl, rfl⟩ tw_149 (List.mem_of_getElem? (i := 3) rfl) rfl ⟨show d + 1 + 1 ≤ d + 2 by omega, show 8 + (1 + 11) + 100 * (d + 1) ≤ 100 * (d + 2) by omega⟩ (by decide) ⟨show 24 + 10 ≤ 99 from by decide +kernel, show 9614 + 3400 ≤ 30357 from by decide +kernel⟩ xs0 (k_X7_init_16 d G18 (by decide +kernel) (rng_none (by decide +kernel))) (fun v h9 kk => ?_)
  obtain ⟨rfl, rfl⟩ := kk
  show AW (m_X11_init (d + 2) 99 30357) 34 13014 76 [(0, .ref 0)] [.ref 16, .ref 0] G19 (kV _)
  refine aw_putrF (k0 := 8) kc_11 (by decide +kernel) (Nat.le_of_ble_eq_true rfl) tw_495 d_X11_init_76 rfl rfl rfl rfl ?_
  show AW (m_X11_init (d + 2) 99 30357) 34 13014 79 [(0, .ref 0)] [] G20 (kV _)
  refine aw_aload_n (i := 0) rfl d_X11_init_79 0 rfl ?_
  refine aw_new (ci := 4) 17 kc_4 tw_190 tw_191 tw_7 (by decide +kernel) (by decide) xs0 (show 34 + 1 ≤ 99 from by decide +kernel) (show 13014 + 17 ≤ 30357 from by decide +kernel) d_X11_init_80 ?_
  show AW (m_X11_init (d + 2) 99 30357) 35 13031 83 [(0, .ref 0)] [.ref 17, .ref 0] G21 (kV _)
  refine aw_dup d_X11_init_83 rfl ?_
  refine aw_callIN (vs := []) (a := 17) (rest := [.ref 17, .ref 0]) d_X11_init_84 (cI_X4_init (d + 1) 14 5060) ⟨rfl, rfl⟩ tw_193 (List.mem_of_getElem? (i := 4) rfl) rfl ⟨show d + 1 + 1 ≤ d + 2 by omega, show 8 + (1 + 11) + 100 * (d + 1) ≤ 100 * (d + 2) by omega⟩ (by decide) ⟨show 35 + 14 ≤ 99 from by decide +kernel, show 13031 + 5060 ≤ 30357 from by decide +kernel⟩ xs0 (k_X4_init_17 d G21 (by decide +kernel) (rng_none (by decide +kernel))) (fun v h9 kk => ?_)
  obtain ⟨rfl, rfl⟩ := kk
  show AW (m_X11_init (d + 2) 99 30357) 49 18091 87 [(0, .ref 0)] [.ref 17, .ref 0] G22 (kV _)
  refine aw_putrF (k0 := 9) kc_11 (by decide +kernel) (Nat.le_of_ble_eq_true rfl) tw_496 d_X11_init_87 rfl rfl rfl rfl ?_
  show AW (m_X11_init (d + 2) 99 30357) 49 18091 90 [(0, .ref 0)] [] G23 (kV _)
  refine aw_aload_n (i := 0) rfl d_X11_init_90 0 rfl ?_
  refine aw_new (ci := 1) 18 kc_1 tw_253 tw_254 tw_8 (by decide +kernel) (by decide) xs0 (show 49 + 1 ≤ 99 from by decide +kernel) (show 18091 + 16 ≤ 30357 from by decide +kernel) d_X11_init_91 ?_
  show AW (m_X11_init (d + 2) 99 30357) 50 18107 94 [(0, .ref 0)] [.ref 18, .ref 0] G24 (kV _)
  refine aw_dup d_X11_init_94 rfl ?_
  refine aw_callI (vs := []) (a := 18) (rest := [.ref 18, .ref 0]) d_X11_init_95 (cI_X1_init (d + 1) 14 1110) ⟨rfl, rfl⟩ tw_256 tw_255 rfl ⟨show d + 1 + 1 ≤ d + 2 by omega, show 8 + (1 + 11) + 100 * (d + 1) ≤ 100 * (d + 2) by omega⟩ (by decide) ⟨show 50 + 14 ≤ 99 from by decide +kernel, show 18107 + 1110 ≤ 30357 from by decide +kernel⟩ xs0 (k_X1_init_18 d G24 (by decide +kernel) (rng_none (by decide +kernel))) (fun v h9 kk => ?_)
  obtain ⟨rfl, rfl⟩ := kk
  show AW (m_X11_init (d + 2) 99 30357) 64 19217 98 [(0, .ref 0)] [.ref 18, .ref 0] G25 (kV _)
  refine aw_putrF (k0 := 10) kc_11 (by decide +kernel) (Nat.le_of_ble_eq_true rfl) tw_497 d_X11_init_98 rfl rfl rfl rfl ?_
  show AW (m_X11_init (d + 2) 99 30357) 64 19217 101 [(0, .ref 0)] [] G26 (kV _)
  refine aw_aload_n (i := 0) rfl d_X11_init_101 0 rfl ?_
  refine aw_new (ci := 3) 19 kc_3 tw_315 tw_316 tw_10 (by decide +kernel) (by decide) xs0 (show 64 + 1 ≤ 99 from by decide +kernel) (show 19217 + 11 ≤ 30357 from by decide +kernel) d_X11_init_102 ?_
  show AW (m_X11_init (d + 2) 99 30357) 65 19228 105 [(0, .ref 0)] [.ref 19, .ref 0] G27 (kV _)
  refine aw_dup d_X11_init_105 rfl ?_
  refine aw_callIN (vs := []) (a := 19) (rest := [.ref 19, .ref 0]) d_X11_init_106 (cI_X3_init (d + 1) 7 4704) ⟨rfl, rfl⟩ tw_318 (List.mem_of_getElem? (i := 5) rfl) rfl ⟨show d + 1 + 1 ≤ d + 2 by omega, show 8 + (1 + 11) + 100 * (d + 1) ≤ 100 * (d + 2) by omega⟩ (by decide) ⟨show 65 + 7 ≤ 99 from by decide +kernel, show 19228 + 4704 ≤ 30357 from by decide +kernel⟩ xs0 (k_X3_init_19 d G27 (by decide +kernel) (rng_none (by decide +kernel))) (fun v h9 kk => ?_)
  obtain ⟨rfl, rfl⟩ := kk
  show AW (m_X11_init (d + 2) 99 30357) 72 23932 109 [(0, .ref 0)] [.ref 19, .ref 0] G28 (kV _)
  refine aw_putrF (k0 := 11) kc_11 (by decide +kernel) (Nat.le_of_ble_eq_true rfl) tw_498 d_X11_init_109 rfl rfl rfl rfl ?_
  show AW (m_X11_init (d + 2) 99 30357) 72 23932 112 [(0, .ref 0)] [] G29 (kV _)
  refine aw_aload_n (i := 0) rfl d_X11_init_112 0 rfl ?_
  refine aw_new (ci := 6) 20 kc_6 tw_357 tw_358 tw_11 (by decide +kernel) (by decide) xs0 (show 72 + 1 ≤ 99 from by decide +kernel) (show 23932 + 20 ≤ 30357 from by decide +kernel) d_X11_init_113 ?_
  show AW (m_X11_init (d + 2) 99 30357) 73 23952 116 [(0, .ref 0)] [.ref 20, .ref 0] G30 (kV _)
  refine aw_dup d_X11_init_116 rfl ?_
  refine aw_callIN (vs := []) (a := 20) (rest := [.ref 20, .ref 0]) d_X11_init_117 (cI_X6_init (d + 1) 12 3439) ⟨rfl, rfl⟩ tw_360 (List.mem_of_getElem? (i := 6) rfl) rfl ⟨show d + 1 + 1 ≤ d + 2 by omega, show 8 + (1 + 11) + 100 * (d + 1) ≤ 100 * (d + 2) by omega⟩ (by decide) ⟨show 73 + 12 ≤ 99 from by decide +kernel, show 23952 + 3439 ≤ 30357 from by decide +kernel⟩ xs0 (k_X6_init_20 d G30 (by decide +kernel) (rng_none (by decide +kernel))) (fun v h9 kk => ?_)
  obtain ⟨rfl, rfl⟩ := kk
  show AW (m_X11_init (d + 2) 99 30357) 85 27391 120 [(0, .ref 0)] [.ref 20, .ref 0] G31 (kV _)
  refine aw_putrF (k0 := 12) kc_11 (by decide +kernel) (Nat.le_of_ble_eq_true rfl) tw_499 d_X11_init_120 rfl rfl rfl rfl ?_
  show AW (m_X11_init (d + 2) 99 30357) 85 27391 123 [(0, .ref 0)] [] G32 (kV _)
  refine aw_aload_n (i := 0) rfl d_X11_init_123 0 rfl ?_
  refine aw_new (ci := 5) 21 kc_5 tw_427 tw_428 tw_12 (by decide +kernel) (by decide) xs0 (show 85 + 1 ≤ 99 from by decide +kernel) (show 27391 + 16 ≤ 30357 from by decide +kernel) d_X11_init_124 ?_
  show AW (m_X11_init (d + 2) 99 30357) 86 27407 127 [(0, .ref 0)] [.ref 21, .ref 0] G33 (kV _)
  refine aw_dup d_X11_init_127 rfl ?_
  refine aw_callI (vs := []) (a := 21) (rest := [.ref 21, .ref 0]) d_X11_init_128 (cI_X5_init (d + 1) 12 2950) ⟨rfl, rfl⟩ tw_430 tw_429 rfl ⟨show d + 1 + 1 ≤ d + 2 by omega, show 8 + (1 + 11) + 100 * (d + 1) ≤ 100 * (d + 2) by omega⟩ (by decide) ⟨show 86 + 12 ≤ 99 from by decide +kernel, show 27407 + 2950 ≤ 30357 from by decide +kernel⟩ xs0 (k_X5_init_21 d G33 (by decide +kernel) (rng_none (by decide +kernel))) (fun v h9 kk => ?_)
  obtain ⟨rfl, rfl⟩ := kk
  show AW (m_X11_init (d + 2) 99 30357) 98 30357 131 [(0, .ref 0)] [.ref 21, .ref 0] G34 (kV _)
  refine aw_putrF (k0 := 13) kc_11 (by decide +kernel) (Nat.le_of_ble_eq_true rfl) tw_500 d_X11_init_131 rfl rfl rfl rfl ?_
  show AW (m_X11_init (d + 2) 99 30357) 98 30357 134 [(0, .ref 0)] [] G35 (kV _)
  refine aw_aload_n (i := 0) rfl d_X11_init_134 0 rfl ?_
  refine aw_iconst (v := 0) d_X11_init_135 ic_0 ?_
  refine aw_newa (t := 3) (atype := .long) 400 0 (by decide) rfl tw_426 (by decide +kernel) (by decide) xs0 (by decide) (by decide) (by decide) (show 98 + 1 ≤ 99 from by decide +kernel) (show 30357 + 0 ≤ 30357 from by decide +kernel) d_X11_init_136 ?_
  show AW (m_X11_init (d + 2) 99 30357) 99 30357 138 [(0, .ref 0)] [.ref 400, .ref 0] G36 (kV _)
  refine aw_putr (k0 := 15) kc_11 (by decide +kernel) (Nat.le_of_ble_eq_true rfl) tw_502 d_X11_init_138 rfl rfl ?_
  show AW (m_X11_init (d + 2) 99 30357) 99 30357 141 [(0, .ref 0)] [] G37 (kV _)
  exact aw_vret rfl d_X11_init_141 ⟨show 99 ≤ 99 from Nat.le_refl _, show 30357 ≤ 30357 from Nat.le_refl _⟩ ⟨rfl, rfl⟩
noncomputable def GM0 : Hp_ := h_nw G37 1 22 131
noncomputable def HF : Hp_ := h_nw (CH_1 GM0) 2 3 1
theorem wHF : Wf HF := by
  have h1 : shL.all (fun q => decide (h_sh HF q.1 = some q.2)) = true := by decide +kernel
  have h2 : rfL.all (fun q => decide (h_r HF q.1 q.2.1 = some q.2.2)) = true := by decide +kernel
  exact ⟨fun q hq => of_decide_eq_true (List.all_eq_true.mp h1 q hq), fun q hq => of_decide_eq_true (List.all_eq_true.mp h2 q hq)⟩
end
section
theorem d_L_40 : decode code 40 = .ok (.tableswitch 2366 0 56 #[244, 293, 330, 379, 452, 477, 502, 515, 552, 589, 638, 691, 716, 756, 793, 842, 879, 916, 989, 1014, 1051, 1088, 1125, 1150, 1175, 1212, 1249, 1326, 1351, 1400, 1449, 1498, 1523, 1576, 1601, 1614, 1639, 1664, 1689, 1738, 1775, 1800, 1837, 1886, 1911, 1936, 1947, 1972, 2021, 2070, 2119, 2132, 2169, 2218, 2243, 2280, 2341], 244) := by decide +kernel
theorem db67e_0 : Pf_ code [(0, [0xbb, 0x00, 0x08]), (3, [0x59]), (4, [0xb7, 0x00, 0x0f]), (7, [0x4c]), (8, [0xbb, 0x00, 0x10]), (11, [0x59]), (12, [0xb7, 0x00, 0x12]), (15, [0x4d]), (16, [0x04]), (17, [0xbc, 0x0b]), (19, [0x4e]), (20, [0x03]), (21, [0x36, 0x04]), (23, [0x15, 0x04]), (25, [0x2a]), (26, [0xbe]), (27, [0x10, 0x06]), (29, [0x64]), (30, [0xa3, 0x09, 0x4e]), (33, [0x2a]), (34, [0x15, 0x04]), (36, [0x2e]), (37, [0x10, 0x3f]), (39, [0x7e])] := pf_ok code _ 0 (by decide +kernel)
noncomputable def d_L_0 := gq_0 db67e_0 eb_1407
noncomputable def d_L_3 := gq_1 db67e_0 eb_47
noncomputable def d_L_4 := gq_2 db67e_0 eb_1408
noncomputable def d_L_7 := gq_3 db67e_0 eb_1409
noncomputable def d_L_8 := gq_4 db67e_0 eb_603
noncomputable def d_L_11 := gq_5 db67e_0 eb_47
noncomputable def d_L_12 := gq_6 db67e_0 eb_604
noncomputable def d_L_15 := gq_7 db67e_0 eb_1399
noncomputable def d_L_16 := gq_8 db67e_0 eb_20
noncomputable def d_L_17 := gq_9 db67e_0 eb_352
noncomputable def d_L_19 := gq_10 db67e_0 eb_650
noncomputable def d_L_20 := gq_11 db67e_0 eb_22
noncomputable def d_L_21 := gq_12 db67e_0 eb_134
noncomputable def d_L_23 := gq_13 db67e_0 eb_77
noncomputable def d_L_25 := gq_14 db67e_0 eb_0
noncomputable def d_L_26 := gq_15 db67e_0 eb_53
noncomputable def d_L_27 := gq_16 db67e_0 eb_15
noncomputable def d_L_29 := gq_17 db67e_0 eb_49
noncomputable def d_L_30 := gq_18 db67e_0 eb_1410
noncomputable def d_L_33 := gq_19 db67e_0 eb_0
noncomputable def d_L_34 := gq_20 db67e_0 eb_77
noncomputable def d_L_36 := gq_21 db67e_0 eb_38
noncomputable def d_L_37 := gq_22 db67e_0 eb_514
noncomputable def d_L_39 := gq_23 db67e_0 eb_56
theorem db67e_1 : Pf_ code [(284, [0x2b]), (285, [0x2a]), (286, [0x15, 0x04]), (288, [0x04]), (289, [0x60]), (290, [0x2e]), (291, [0x2a]), (292, [0x15, 0x04]), (294, [0x05]), (295, [0x60]), (296, [0x2e]), (297, [0x2a]), (298, [0x15, 0x04]), (300, [0x06]), (301, [0x60]), (302, [0x2e]), (303, [0xb6, 0x00, 0x13]), (306, [0x57]), (307, [0x2c]), (308, [0x2a]), (309, [0x15, 0x04]), (311, [0x04]), (312, [0x60]), (313, [0x2e])] := pf_ok code _ 284 (by decide +kernel)
noncomputable def d_L_284 := gq_0 db67e_1 eb_24
noncomputable def d_L_285 := gq_1 db67e_1 eb_0
noncomputable def d_L_286 := gq_2 db67e_1 eb_77
noncomputable def d_L_288 := gq_3 db67e_1 eb_20
noncomputable def d_L_289 := gq_4 db67e_1 eb_36
noncomputable def d_L_290 := gq_5 db67e_1 eb_38
noncomputable def d_L_291 := gq_6 db67e_1 eb_0
noncomputable def d_L_292 := gq_7 db67e_1 eb_77
noncomputable def d_L_294 := gq_8 db67e_1 eb_11
noncomputable def d_L_295 := gq_9 db67e_1 eb_36
noncomputable def d_L_296 := gq_10 db67e_1 eb_38
noncomputable def d_L_297 := gq_11 db67e_1 eb_0
noncomputable def d_L_298 := gq_12 db67e_1 eb_77
noncomputable def d_L_300 := gq_13 db67e_1 eb_55
noncomputable def d_L_301 := gq_14 db67e_1 eb_36
noncomputable def d_L_302 := gq_15 db67e_1 eb_38
noncomputable def d_L_303 := gq_16 db67e_1 eb_1411
noncomputable def d_L_306 := gq_17 db67e_1 eb_483
noncomputable def d_L_307 := gq_18 db67e_1 eb_304
noncomputable def d_L_308 := gq_19 db67e_1 eb_0
noncomputable def d_L_309 := gq_20 db67e_1 eb_77
noncomputable def d_L_311 := gq_21 db67e_1 eb_20
noncomputable def d_L_312 := gq_22 db67e_1 eb_36
noncomputable def d_L_313 := gq_23 db67e_1 eb_38
theorem db67e_2 : Pf_ code [(314, [0x2a]), (315, [0x15, 0x04]), (317, [0x05]), (318, [0x60]), (319, [0x2e]), (320, [0x2a]), (321, [0x15, 0x04]), (323, [0x06]), (324, [0x60]), (325, [0x2e]), (326, [0xb6, 0x00, 0x17]), (329, [0x57]), (330, [0xa7, 0x08, 0x1c]), (333, [0x2b]), (334, [0x2a]), (335, [0x15, 0x04]), (337, [0x04]), (338, [0x60]), (339, [0x2e]), (340, [0x2a]), (341, [0x15, 0x04]), (343, [0x05]), (344, [0x60]), (345, [0x2e])] := pf_ok code _ 314 (by decide +kernel)
noncomputable def d_L_314 := gq_0 db67e_2 eb_0
noncomputable def d_L_315 := gq_1 db67e_2 eb_77
noncomputable def d_L_317 := gq_2 db67e_2 eb_11
noncomputable def d_L_318 := gq_3 db67e_2 eb_36
noncomputable def d_L_319 := gq_4 db67e_2 eb_38
noncomputable def d_L_320 := gq_5 db67e_2 eb_0
noncomputable def d_L_321 := gq_6 db67e_2 eb_77
noncomputable def d_L_323 := gq_7 db67e_2 eb_55
noncomputable def d_L_324 := gq_8 db67e_2 eb_36
noncomputable def d_L_325 := gq_9 db67e_2 eb_38
noncomputable def d_L_326 := gq_10 db67e_2 eb_1412
noncomputable def d_L_329 := gq_11 db67e_2 eb_483
noncomputable def d_L_330 := gq_12 db67e_2 eb_1413
noncomputable def d_L_333 := gq_13 db67e_2 eb_24
noncomputable def d_L_334 := gq_14 db67e_2 eb_0
noncomputable def d_L_335 := gq_15 db67e_2 eb_77
noncomputable def d_L_337 := gq_16 db67e_2 eb_20
noncomputable def d_L_338 := gq_17 db67e_2 eb_36
noncomputable def d_L_339 := gq_18 db67e_2 eb_38
noncomputable def d_L_340 := gq_19 db67e_2 eb_0
noncomputable def d_L_341 := gq_20 db67e_2 eb_77
noncomputable def d_L_343 := gq_21 db67e_2 eb_11
noncomputable def d_L_344 := gq_22 db67e_2 eb_36
noncomputable def d_L_345 := gq_23 db67e_2 eb_38
theorem db67e_3 : Pf_ code [(346, [0xb6, 0x00, 0x18]), (349, [0x57]), (350, [0x2c]), (351, [0x2a]), (352, [0x15, 0x04]), (354, [0x04]), (355, [0x60]), (356, [0x2e]), (357, [0x2a]), (358, [0x15, 0x04]), (360, [0x05]), (361, [0x60]), (362, [0x2e]), (363, [0xb6, 0x00, 0x1b]), (366, [0x57]), (367, [0xa7, 0x07, 0xf7]), (370, [0x2b]), (371, [0x2a]), (372, [0x15, 0x04]), (374, [0x04]), (375, [0x60]), (376, [0x2e]), (377, [0x2a]), (378, [0x15, 0x04])] := pf_ok code _ 346 (by decide +kernel)
noncomputable def d_L_346 := gq_0 db67e_3 eb_1414
noncomputable def d_L_349 := gq_1 db67e_3 eb_483
noncomputable def d_L_350 := gq_2 db67e_3 eb_304
noncomputable def d_L_351 := gq_3 db67e_3 eb_0
noncomputable def d_L_352 := gq_4 db67e_3 eb_77
noncomputable def d_L_354 := gq_5 db67e_3 eb_20
noncomputable def d_L_355 := gq_6 db67e_3 eb_36
noncomputable def d_L_356 := gq_7 db67e_3 eb_38
noncomputable def d_L_357 := gq_8 db67e_3 eb_0
noncomputable def d_L_358 := gq_9 db67e_3 eb_77
noncomputable def d_L_360 := gq_10 db67e_3 eb_11
noncomputable def d_L_361 := gq_11 db67e_3 eb_36
noncomputable def d_L_362 := gq_12 db67e_3 eb_38
noncomputable def d_L_363 := gq_13 db67e_3 eb_1415
noncomputable def d_L_366 := gq_14 db67e_3 eb_483
noncomputable def d_L_367 := gq_15 db67e_3 eb_1416
noncomputable def d_L_370 := gq_16 db67e_3 eb_24
noncomputable def d_L_371 := gq_17 db67e_3 eb_0
noncomputable def d_L_372 := gq_18 db67e_3 eb_77
noncomputable def d_L_374 := gq_19 db67e_3 eb_20
noncomputable def d_L_375 := gq_20 db67e_3 eb_36
noncomputable def d_L_376 := gq_21 db67e_3 eb_38
noncomputable def d_L_377 := gq_22 db67e_3 eb_0
noncomputable def d_L_378 := gq_23 db67e_3 eb_77
theorem db67e_4 : Pf_ code [(380, [0x05]), (381, [0x60]), (382, [0x2e]), (383, [0x2a]), (384, [0x15, 0x04]), (386, [0x06]), (387, [0x60]), (388, [0x2e]), (389, [0xb6, 0x00, 0x1c]), (392, [0x57]), (393, [0x2c]), (394, [0x2a]), (395, [0x15, 0x04]), (397, [0x04]), (398, [0x60]), (399, [0x2e]), (400, [0x2a]), (401, [0x15, 0x04]), (403, [0x05]), (404, [0x60]), (405, [0x2e]), (406, [0x2a]), (407, [0x15, 0x04]), (409, [0x06])] := pf_ok code _ 380 (by decide +kernel)
noncomputable def d_L_380 := gq_0 db67e_4 eb_11
noncomputable def d_L_381 := gq_1 db67e_4 eb_36
noncomputable def d_L_382 := gq_2 db67e_4 eb_38
noncomputable def d_L_383 := gq_3 db67e_4 eb_0
noncomputable def d_L_384 := gq_4 db67e_4 eb_77
noncomputable def d_L_386 := gq_5 db67e_4 eb_55
noncomputable def d_L_387 := gq_6 db67e_4 eb_36
noncomputable def d_L_388 := gq_7 db67e_4 eb_38
noncomputable def d_L_389 := gq_8 db67e_4 eb_1417
noncomputable def d_L_392 := gq_9 db67e_4 eb_483
noncomputable def d_L_393 := gq_10 db67e_4 eb_304
noncomputable def d_L_394 := gq_11 db67e_4 eb_0
noncomputable def d_L_395 := gq_12 db67e_4 eb_77
noncomputable def d_L_397 := gq_13 db67e_4 eb_20
noncomputable def d_L_398 := gq_14 db67e_4 eb_36
noncomputable def d_L_399 := gq_15 db67e_4 eb_38
noncomputable def d_L_400 := gq_16 db67e_4 eb_0
noncomputable def d_L_401 := gq_17 db67e_4 eb_77
noncomputable def d_L_403 := gq_18 db67e_4 eb_11
noncomputable def d_L_404 := gq_19 db67e_4 eb_36
noncomputable def d_L_405 := gq_20 db67e_4 eb_38
noncomputable def d_L_406 := gq_21 db67e_4 eb_0
noncomputable def d_L_407 := gq_22 db67e_4 eb_77
noncomputable def d_L_409 := gq_23 db67e_4 eb_55
theorem db67e_5 : Pf_ code [(410, [0x60]), (411, [0x2e]), (412, [0xb6, 0x00, 0x1f]), (415, [0x57]), (416, [0xa7, 0x07, 0xc6]), (419, [0x2b]), (420, [0x2a]), (421, [0x15, 0x04]), (423, [0x04]), (424, [0x60]), (425, [0x2e]), (426, [0x2a]), (427, [0x15, 0x04]), (429, [0x05]), (430, [0x60]), (431, [0x2e]), (432, [0x2a]), (433, [0x15, 0x04]), (435, [0x06]), (436, [0x60]), (437, [0x2e]), (438, [0x2a]), (439, [0x15, 0x04]), (441, [0x07])] := pf_ok code _ 410 (by decide +kernel)
noncomputable def d_L_410 := gq_0 db67e_5 eb_36
noncomputable def d_L_411 := gq_1 db67e_5 eb_38
noncomputable def d_L_412 := gq_2 db67e_5 eb_1418
noncomputable def d_L_415 := gq_3 db67e_5 eb_483
noncomputable def d_L_416 := gq_4 db67e_5 eb_1419
noncomputable def d_L_419 := gq_5 db67e_5 eb_24
noncomputable def d_L_420 := gq_6 db67e_5 eb_0
noncomputable def d_L_421 := gq_7 db67e_5 eb_77
noncomputable def d_L_423 := gq_8 db67e_5 eb_20
noncomputable def d_L_424 := gq_9 db67e_5 eb_36
noncomputable def d_L_425 := gq_10 db67e_5 eb_38
noncomputable def d_L_426 := gq_11 db67e_5 eb_0
noncomputable def d_L_427 := gq_12 db67e_5 eb_77
noncomputable def d_L_429 := gq_13 db67e_5 eb_11
noncomputable def d_L_430 := gq_14 db67e_5 eb_36
noncomputable def d_L_431 := gq_15 db67e_5 eb_38
noncomputable def d_L_432 := gq_16 db67e_5 eb_0
noncomputable def d_L_433 := gq_17 db67e_5 eb_77
noncomputable def d_L_435 := gq_18 db67e_5 eb_55
noncomputable def d_L_436 := gq_19 db67e_5 eb_36
noncomputable def d_L_437 := gq_20 db67e_5 eb_38
noncomputable def d_L_438 := gq_21 db67e_5 eb_0
noncomputable def d_L_439 := gq_22 db67e_5 eb_77
noncomputable def d_L_441 := gq_23 db67e_5 eb_294
theorem db67e_6 : Pf_ code [(442, [0x60]), (443, [0x2e]), (444, [0x2a]), (445, [0x15, 0x04]), (447, [0x08]), (448, [0x60]), (449, [0x2e]), (450, [0xb6, 0x00, 0x20]), (453, [0x57]), (454, [0x2c]), (455, [0x2a]), (456, [0x15, 0x04]), (458, [0x04]), (459, [0x60]), (460, [0x2e]), (461, [0x2a]), (462, [0x15, 0x04]), (464, [0x05]), (465, [0x60]), (466, [0x2e]), (467, [0x2a]), (468, [0x15, 0x04]), (470, [0x06]), (471, [0x60])] := pf_ok code _ 442 (by decide +kernel)
noncomputable def d_L_442 := gq_0 db67e_6 eb_36
noncomputable def d_L_443 := gq_1 db67e_6 eb_38
noncomputable def d_L_444 := gq_2 db67e_6 eb_0
noncomputable def d_L_445 := gq_3 db67e_6 eb_77
noncomputable def d_L_447 := gq_4 db67e_6 eb_123
noncomputable def d_L_448 := gq_5 db67e_6 eb_36
noncomputable def d_L_449 := gq_6 db67e_6 eb_38
noncomputable def d_L_450 := gq_7 db67e_6 eb_1420
noncomputable def d_L_453 := gq_8 db67e_6 eb_483
noncomputable def d_L_454 := gq_9 db67e_6 eb_304
noncomputable def d_L_455 := gq_10 db67e_6 eb_0
noncomputable def d_L_456 := gq_11 db67e_6 eb_77
noncomputable def d_L_458 := gq_12 db67e_6 eb_20
noncomputable def d_L_459 := gq_13 db67e_6 eb_36
noncomputable def d_L_460 := gq_14 db67e_6 eb_38
noncomputable def d_L_461 := gq_15 db67e_6 eb_0
noncomputable def d_L_462 := gq_16 db67e_6 eb_77
noncomputable def d_L_464 := gq_17 db67e_6 eb_11
noncomputable def d_L_465 := gq_18 db67e_6 eb_36
noncomputable def d_L_466 := gq_19 db67e_6 eb_38
noncomputable def d_L_467 := gq_20 db67e_6 eb_0
noncomputable def d_L_468 := gq_21 db67e_6 eb_77
noncomputable def d_L_470 := gq_22 db67e_6 eb_55
noncomputable def d_L_471 := gq_23 db67e_6 eb_36
theorem db67e_7 : Pf_ code [(472, [0x2e]), (473, [0x2a]), (474, [0x15, 0x04]), (476, [0x07]), (477, [0x60]), (478, [0x2e]), (479, [0x2a]), (480, [0x15, 0x04]), (482, [0x08]), (483, [0x60]), (484, [0x2e]), (485, [0xb6, 0x00, 0x24]), (488, [0x57]), (489, [0xa7, 0x07, 0x7d]), (492, [0x2b]), (493, [0x2a]), (494, [0x15, 0x04]), (496, [0x04]), (497, [0x60]), (498, [0x2e]), (499, [0xb6, 0x00, 0x25]), (502, [0x57]), (503, [0x2c]), (504, [0x2a])] := pf_ok code _ 472 (by decide +kernel)
noncomputable def d_L_472 := gq_0 db67e_7 eb_38
noncomputable def d_L_473 := gq_1 db67e_7 eb_0
noncomputable def d_L_474 := gq_2 db67e_7 eb_77
noncomputable def d_L_476 := gq_3 db67e_7 eb_294
noncomputable def d_L_477 := gq_4 db67e_7 eb_36
noncomputable def d_L_478 := gq_5 db67e_7 eb_38
noncomputable def d_L_479 := gq_6 db67e_7 eb_0
noncomputable def d_L_480 := gq_7 db67e_7 eb_77
noncomputable def d_L_482 := gq_8 db67e_7 eb_123
noncomputable def d_L_483 := gq_9 db67e_7 eb_36
noncomputable def d_L_484 := gq_10 db67e_7 eb_38
noncomputable def d_L_485 := gq_11 db67e_7 eb_1421
noncomputable def d_L_488 := gq_12 db67e_7 eb_483
noncomputable def d_L_489 := gq_13 db67e_7 eb_1422
noncomputable def d_L_492 := gq_14 db67e_7 eb_24
noncomputable def d_L_493 := gq_15 db67e_7 eb_0
noncomputable def d_L_494 := gq_16 db67e_7 eb_77
noncomputable def d_L_496 := gq_17 db67e_7 eb_20
noncomputable def d_L_497 := gq_18 db67e_7 eb_36
noncomputable def d_L_498 := gq_19 db67e_7 eb_38
noncomputable def d_L_499 := gq_20 db67e_7 eb_1423
noncomputable def d_L_502 := gq_21 db67e_7 eb_483
noncomputable def d_L_503 := gq_22 db67e_7 eb_304
noncomputable def d_L_504 := gq_23 db67e_7 eb_0
theorem db67e_8 : Pf_ code [(505, [0x15, 0x04]), (507, [0x04]), (508, [0x60]), (509, [0x2e]), (510, [0xb6, 0x00, 0x29]), (513, [0x57]), (514, [0xa7, 0x07, 0x64]), (517, [0x2b]), (518, [0x2a]), (519, [0x15, 0x04]), (521, [0x04]), (522, [0x60]), (523, [0x2e]), (524, [0xb6, 0x00, 0x2a]), (527, [0x57]), (528, [0x2c]), (529, [0x2a]), (530, [0x15, 0x04]), (532, [0x04]), (533, [0x60]), (534, [0x2e]), (535, [0xb6, 0x00, 0x2e]), (538, [0x57]), (539, [0xa7, 0x07, 0x4b])] := pf_ok code _ 505 (by decide +kernel)
noncomputable def d_L_505 := gq_0 db67e_8 eb_77
noncomputable def d_L_507 := gq_1 db67e_8 eb_20
noncomputable def d_L_508 := gq_2 db67e_8 eb_36
noncomputable def d_L_509 := gq_3 db67e_8 eb_38
noncomputable def d_L_510 := gq_4 db67e_8 eb_1424
noncomputable def d_L_513 := gq_5 db67e_8 eb_483
noncomputable def d_L_514 := gq_6 db67e_8 eb_1425
noncomputable def d_L_517 := gq_7 db67e_8 eb_24
noncomputable def d_L_518 := gq_8 db67e_8 eb_0
noncomputable def d_L_519 := gq_9 db67e_8 eb_77
noncomputable def d_L_521 := gq_10 db67e_8 eb_20
noncomputable def d_L_522 := gq_11 db67e_8 eb_36
noncomputable def d_L_523 := gq_12 db67e_8 eb_38
noncomputable def d_L_524 := gq_13 db67e_8 eb_1426
noncomputable def d_L_527 := gq_14 db67e_8 eb_483
noncomputable def d_L_528 := gq_15 db67e_8 eb_304
noncomputable def d_L_529 := gq_16 db67e_8 eb_0
noncomputable def d_L_530 := gq_17 db67e_8 eb_77
noncomputable def d_L_532 := gq_18 db67e_8 eb_20
noncomputable def d_L_533 := gq_19 db67e_8 eb_36
noncomputable def d_L_534 := gq_20 db67e_8 eb_38
noncomputable def d_L_535 := gq_21 db67e_8 eb_67
noncomputable def d_L_538 := gq_22 db67e_8 eb_483
noncomputable def d_L_539 := gq_23 db67e_8 eb_1427
theorem db67e_9 : Pf_ code [(542, [0x2b]), (543, [0xb6, 0x00, 0x2f]), (546, [0x57]), (547, [0x2c]), (548, [0xb6, 0x00, 0x33]), (551, [0x57]), (552, [0xa7, 0x07, 0x3e]), (555, [0x2b]), (556, [0x2a]), (557, [0x15, 0x04]), (559, [0x04]), (560, [0x60]), (561, [0x2e]), (562, [0x2a]), (563, [0x15, 0x04]), (565, [0x05]), (566, [0x60]), (567, [0x2e]), (568, [0xb6, 0x00, 0x34]), (571, [0x57]), (572, [0x2c]), (573, [0x2a]), (574, [0x15, 0x04]), (576, [0x04])] := pf_ok code _ 542 (by decide +kernel)
noncomputable def d_L_542 := gq_0 db67e_9 eb_24
noncomputable def d_L_543 := gq_1 db67e_9 eb_1428
noncomputable def d_L_546 := gq_2 db67e_9 eb_483
noncomputable def d_L_547 := gq_3 db67e_9 eb_304
noncomputable def d_L_548 := gq_4 db67e_9 eb_211
noncomputable def d_L_551 := gq_5 db67e_9 eb_483
noncomputable def d_L_552 := gq_6 db67e_9 eb_1429
noncomputable def d_L_555 := gq_7 db67e_9 eb_24
noncomputable def d_L_556 := gq_8 db67e_9 eb_0
noncomputable def d_L_557 := gq_9 db67e_9 eb_77
noncomputable def d_L_559 := gq_10 db67e_9 eb_20
noncomputable def d_L_560 := gq_11 db67e_9 eb_36
noncomputable def d_L_561 := gq_12 db67e_9 eb_38
noncomputable def d_L_562 := gq_13 db67e_9 eb_0
noncomputable def d_L_563 := gq_14 db67e_9 eb_77
noncomputable def d_L_565 := gq_15 db67e_9 eb_11
noncomputable def d_L_566 := gq_16 db67e_9 eb_36
noncomputable def d_L_567 := gq_17 db67e_9 eb_38
noncomputable def d_L_568 := gq_18 db67e_9 eb_1430
noncomputable def d_L_571 := gq_19 db67e_9 eb_483
noncomputable def d_L_572 := gq_20 db67e_9 eb_304
noncomputable def d_L_573 := gq_21 db67e_9 eb_0
noncomputable def d_L_574 := gq_22 db67e_9 eb_77
noncomputable def d_L_576 := gq_23 db67e_9 eb_20
theorem db67e_10 : Pf_ code [(577, [0x60]), (578, [0x2e]), (579, [0x2a]), (580, [0x15, 0x04]), (582, [0x05]), (583, [0x60]), (584, [0x2e]), (585, [0xb6, 0x00, 0x37]), (588, [0x57]), (589, [0xa7, 0x07, 0x19]), (592, [0x2b]), (593, [0x2a]), (594, [0x15, 0x04]), (596, [0x04]), (597, [0x60]), (598, [0x2e]), (599, [0x2a]), (600, [0x15, 0x04]), (602, [0x05]), (603, [0x60]), (604, [0x2e]), (605, [0xb6, 0x00, 0x38]), (608, [0x57]), (609, [0x2c])] := pf_ok code _ 577 (by decide +kernel)
noncomputable def d_L_577 := gq_0 db67e_10 eb_36
noncomputable def d_L_578 := gq_1 db67e_10 eb_38
noncomputable def d_L_579 := gq_2 db67e_10 eb_0
noncomputable def d_L_580 := gq_3 db67e_10 eb_77
noncomputable def d_L_582 := gq_4 db67e_10 eb_11
noncomputable def d_L_583 := gq_5 db67e_10 eb_36
noncomputable def d_L_584 := gq_6 db67e_10 eb_38
noncomputable def d_L_585 := gq_7 db67e_10 eb_1431
noncomputable def d_L_588 := gq_8 db67e_10 eb_483
noncomputable def d_L_589 := gq_9 db67e_10 eb_1432
noncomputable def d_L_592 := gq_10 db67e_10 eb_24
noncomputable def d_L_593 := gq_11 db67e_10 eb_0
noncomputable def d_L_594 := gq_12 db67e_10 eb_77
noncomputable def d_L_596 := gq_13 db67e_10 eb_20
noncomputable def d_L_597 := gq_14 db67e_10 eb_36
noncomputable def d_L_598 := gq_15 db67e_10 eb_38
noncomputable def d_L_599 := gq_16 db67e_10 eb_0
noncomputable def d_L_600 := gq_17 db67e_10 eb_77
noncomputable def d_L_602 := gq_18 db67e_10 eb_11
noncomputable def d_L_603 := gq_19 db67e_10 eb_36
noncomputable def d_L_604 := gq_20 db67e_10 eb_38
noncomputable def d_L_605 := gq_21 db67e_10 eb_1433
noncomputable def d_L_608 := gq_22 db67e_10 eb_483
noncomputable def d_L_609 := gq_23 db67e_10 eb_304
theorem db67e_11 : Pf_ code [(610, [0x2a]), (611, [0x15, 0x04]), (613, [0x04]), (614, [0x60]), (615, [0x2e]), (616, [0x2a]), (617, [0x15, 0x04]), (619, [0x05]), (620, [0x60]), (621, [0x2e]), (622, [0xb6, 0x00, 0x3c]), (625, [0x57]), (626, [0xa7, 0x06, 0xf4]), (629, [0x2b]), (630, [0x2a]), (631, [0x15, 0x04]), (633, [0x04]), (634, [0x60]), (635, [0x2e]), (636, [0x2a]), (637, [0x15, 0x04]), (639, [0x05]), (640, [0x60]), (641, [0x2e])] := pf_ok code _ 610 (by decide +kernel)
noncomputable def d_L_610 := gq_0 db67e_11 eb_0
noncomputable def d_L_611 := gq_1 db67e_11 eb_77
noncomputable def d_L_613 := gq_2 db67e_11 eb_20
noncomputable def d_L_614 := gq_3 db67e_11 eb_36
noncomputable def d_L_615 := gq_4 db67e_11 eb_38
noncomputable def d_L_616 := gq_5 db67e_11 eb_0
noncomputable def d_L_617 := gq_6 db67e_11 eb_77
noncomputable def d_L_619 := gq_7 db67e_11 eb_11
noncomputable def d_L_620 := gq_8 db67e_11 eb_36
noncomputable def d_L_621 := gq_9 db67e_11 eb_38
noncomputable def d_L_622 := gq_10 db67e_11 eb_85
noncomputable def d_L_625 := gq_11 db67e_11 eb_483
noncomputable def d_L_626 := gq_12 db67e_11 eb_1434
noncomputable def d_L_629 := gq_13 db67e_11 eb_24
noncomputable def d_L_630 := gq_14 db67e_11 eb_0
noncomputable def d_L_631 := gq_15 db67e_11 eb_77
noncomputable def d_L_633 := gq_16 db67e_11 eb_20
noncomputable def d_L_634 := gq_17 db67e_11 eb_36
noncomputable def d_L_635 := gq_18 db67e_11 eb_38
noncomputable def d_L_636 := gq_19 db67e_11 eb_0
noncomputable def d_L_637 := gq_20 db67e_11 eb_77
noncomputable def d_L_639 := gq_21 db67e_11 eb_11
noncomputable def d_L_640 := gq_22 db67e_11 eb_36
noncomputable def d_L_641 := gq_23 db67e_11 eb_38
theorem db67e_12 : Pf_ code [(642, [0x2a]), (643, [0x15, 0x04]), (645, [0x06]), (646, [0x60]), (647, [0x2e]), (648, [0xb6, 0x00, 0x3d]), (651, [0x57]), (652, [0x2c]), (653, [0x2a]), (654, [0x15, 0x04]), (656, [0x04]), (657, [0x60]), (658, [0x2e]), (659, [0x2a]), (660, [0x15, 0x04]), (662, [0x05]), (663, [0x60]), (664, [0x2e]), (665, [0x2a]), (666, [0x15, 0x04]), (668, [0x06]), (669, [0x60]), (670, [0x2e]), (671, [0xb6, 0x00, 0x41])] := pf_ok code _ 642 (by decide +kernel)
noncomputable def d_L_642 := gq_0 db67e_12 eb_0
noncomputable def d_L_643 := gq_1 db67e_12 eb_77
noncomputable def d_L_645 := gq_2 db67e_12 eb_55
noncomputable def d_L_646 := gq_3 db67e_12 eb_36
noncomputable def d_L_647 := gq_4 db67e_12 eb_38
noncomputable def d_L_648 := gq_5 db67e_12 eb_217
noncomputable def d_L_651 := gq_6 db67e_12 eb_483
noncomputable def d_L_652 := gq_7 db67e_12 eb_304
noncomputable def d_L_653 := gq_8 db67e_12 eb_0
noncomputable def d_L_654 := gq_9 db67e_12 eb_77
noncomputable def d_L_656 := gq_10 db67e_12 eb_20
noncomputable def d_L_657 := gq_11 db67e_12 eb_36
noncomputable def d_L_658 := gq_12 db67e_12 eb_38
noncomputable def d_L_659 := gq_13 db67e_12 eb_0
noncomputable def d_L_660 := gq_14 db67e_12 eb_77
noncomputable def d_L_662 := gq_15 db67e_12 eb_11
noncomputable def d_L_663 := gq_16 db67e_12 eb_36
noncomputable def d_L_664 := gq_17 db67e_12 eb_38
noncomputable def d_L_665 := gq_18 db67e_12 eb_0
noncomputable def d_L_666 := gq_19 db67e_12 eb_77
noncomputable def d_L_668 := gq_20 db67e_12 eb_55
noncomputable def d_L_669 := gq_21 db67e_12 eb_36
noncomputable def d_L_670 := gq_22 db67e_12 eb_38
noncomputable def d_L_671 := gq_23 db67e_12 eb_1435
theorem db67e_13 : Pf_ code [(674, [0x57]), (675, [0xa7, 0x06, 0xc3]), (678, [0x2b]), (679, [0x2a]), (680, [0x15, 0x04]), (682, [0x04]), (683, [0x60]), (684, [0x2e]), (685, [0x2a]), (686, [0x15, 0x04]), (688, [0x05]), (689, [0x60]), (690, [0x2e]), (691, [0x99, 0x00, 0x07]), (694, [0x04]), (695, [0xa7, 0x00, 0x04]), (698, [0x03]), (699, [0xb6, 0x00, 0x42]), (702, [0x57]), (703, [0x2c]), (704, [0x2a]), (705, [0x15, 0x04]), (707, [0x04]), (708, [0x60])] := pf_ok code _ 674 (by decide +kernel)
noncomputable def d_L_674 := gq_0 db67e_13 eb_483
noncomputable def d_L_675 := gq_1 db67e_13 eb_1436
noncomputable def d_L_678 := gq_2 db67e_13 eb_24
noncomputable def d_L_679 := gq_3 db67e_13 eb_0
noncomputable def d_L_680 := gq_4 db67e_13 eb_77
noncomputable def d_L_682 := gq_5 db67e_13 eb_20
noncomputable def d_L_683 := gq_6 db67e_13 eb_36
noncomputable def d_L_684 := gq_7 db67e_13 eb_38
noncomputable def d_L_685 := gq_8 db67e_13 eb_0
noncomputable def d_L_686 := gq_9 db67e_13 eb_77
noncomputable def d_L_688 := gq_10 db67e_13 eb_11
noncomputable def d_L_689 := gq_11 db67e_13 eb_36
noncomputable def d_L_690 := gq_12 db67e_13 eb_38
noncomputable def d_L_691 := gq_13 db67e_13 eb_124
noncomputable def d_L_694 := gq_14 db67e_13 eb_20
noncomputable def d_L_695 := gq_15 db67e_13 eb_21
noncomputable def d_L_698 := gq_16 db67e_13 eb_22
noncomputable def d_L_699 := gq_17 db67e_13 eb_295
noncomputable def d_L_702 := gq_18 db67e_13 eb_483
noncomputable def d_L_703 := gq_19 db67e_13 eb_304
noncomputable def d_L_704 := gq_20 db67e_13 eb_0
noncomputable def d_L_705 := gq_21 db67e_13 eb_77
noncomputable def d_L_707 := gq_22 db67e_13 eb_20
noncomputable def d_L_708 := gq_23 db67e_13 eb_36
theorem db67e_14 : Pf_ code [(709, [0x2e]), (710, [0x2a]), (711, [0x15, 0x04]), (713, [0x05]), (714, [0x60]), (715, [0x2e]), (716, [0x99, 0x00, 0x07]), (719, [0x04]), (720, [0xa7, 0x00, 0x04]), (723, [0x03]), (724, [0xb6, 0x00, 0x46]), (727, [0x57]), (728, [0xa7, 0x06, 0x8e]), (731, [0x2b]), (732, [0x2a]), (733, [0x15, 0x04]), (735, [0x04]), (736, [0x60]), (737, [0x2e]), (738, [0xb6, 0x00, 0x47]), (741, [0x57]), (742, [0x2c]), (743, [0x2a]), (744, [0x15, 0x04])] := pf_ok code _ 709 (by decide +kernel)
noncomputable def d_L_709 := gq_0 db67e_14 eb_38
noncomputable def d_L_710 := gq_1 db67e_14 eb_0
noncomputable def d_L_711 := gq_2 db67e_14 eb_77
noncomputable def d_L_713 := gq_3 db67e_14 eb_11
noncomputable def d_L_714 := gq_4 db67e_14 eb_36
noncomputable def d_L_715 := gq_5 db67e_14 eb_38
noncomputable def d_L_716 := gq_6 db67e_14 eb_124
noncomputable def d_L_719 := gq_7 db67e_14 eb_20
noncomputable def d_L_720 := gq_8 db67e_14 eb_21
noncomputable def d_L_723 := gq_9 db67e_14 eb_22
noncomputable def d_L_724 := gq_10 db67e_14 eb_219
noncomputable def d_L_727 := gq_11 db67e_14 eb_483
noncomputable def d_L_728 := gq_12 db67e_14 eb_1437
noncomputable def d_L_731 := gq_13 db67e_14 eb_24
noncomputable def d_L_732 := gq_14 db67e_14 eb_0
noncomputable def d_L_733 := gq_15 db67e_14 eb_77
noncomputable def d_L_735 := gq_16 db67e_14 eb_20
noncomputable def d_L_736 := gq_17 db67e_14 eb_36
noncomputable def d_L_737 := gq_18 db67e_14 eb_38
noncomputable def d_L_738 := gq_19 db67e_14 eb_1438
noncomputable def d_L_741 := gq_20 db67e_14 eb_483
noncomputable def d_L_742 := gq_21 db67e_14 eb_304
noncomputable def d_L_743 := gq_22 db67e_14 eb_0
noncomputable def d_L_744 := gq_23 db67e_14 eb_77
theorem db67e_15 : Pf_ code [(746, [0x04]), (747, [0x60]), (748, [0x2e]), (749, [0xb6, 0x00, 0x4a]), (752, [0x57]), (753, [0xa7, 0x06, 0x75]), (756, [0x2b]), (757, [0x2a]), (758, [0x15, 0x04]), (760, [0x04]), (761, [0x60]), (762, [0x2e]), (763, [0x2a]), (764, [0x15, 0x04]), (766, [0x05]), (767, [0x60]), (768, [0x2e]), (769, [0x2d]), (770, [0xb8, 0x00, 0x4b]), (773, [0x36, 0x05]), (775, [0x2c]), (776, [0x2a]), (777, [0x15, 0x04]), (779, [0x04])] := pf_ok code _ 746 (by decide +kernel)
noncomputable def d_L_746 := gq_0 db67e_15 eb_20
noncomputable def d_L_747 := gq_1 db67e_15 eb_36
noncomputable def d_L_748 := gq_2 db67e_15 eb_38
noncomputable def d_L_749 := gq_3 db67e_15 eb_1439
noncomputable def d_L_752 := gq_4 db67e_15 eb_483
noncomputable def d_L_753 := gq_5 db67e_15 eb_1440
noncomputable def d_L_756 := gq_6 db67e_15 eb_24
noncomputable def d_L_757 := gq_7 db67e_15 eb_0
noncomputable def d_L_758 := gq_8 db67e_15 eb_77
noncomputable def d_L_760 := gq_9 db67e_15 eb_20
noncomputable def d_L_761 := gq_10 db67e_15 eb_36
noncomputable def d_L_762 := gq_11 db67e_15 eb_38
noncomputable def d_L_763 := gq_12 db67e_15 eb_0
noncomputable def d_L_764 := gq_13 db67e_15 eb_77
noncomputable def d_L_766 := gq_14 db67e_15 eb_11
noncomputable def d_L_767 := gq_15 db67e_15 eb_36
noncomputable def d_L_768 := gq_16 db67e_15 eb_38
noncomputable def d_L_769 := gq_17 db67e_15 eb_315
noncomputable def d_L_770 := gq_18 db67e_15 eb_1441
noncomputable def d_L_773 := gq_19 db67e_15 eb_135
noncomputable def d_L_775 := gq_20 db67e_15 eb_304
noncomputable def d_L_776 := gq_21 db67e_15 eb_0
noncomputable def d_L_777 := gq_22 db67e_15 eb_77
noncomputable def d_L_779 := gq_23 db67e_15 eb_20
theorem db67e_16 : Pf_ code [(780, [0x60]), (781, [0x2e]), (782, [0x2a]), (783, [0x15, 0x04]), (785, [0x05]), (786, [0x60])] := pf_ok code _ 780 (by decide +kernel)
noncomputable def d_L_780 := gq_0 db67e_16 eb_36
noncomputable def d_L_781 := gq_1 db67e_16 eb_38
noncomputable def d_L_782 := gq_2 db67e_16 eb_0
noncomputable def d_L_783 := gq_3 db67e_16 eb_77
noncomputable def d_L_785 := gq_4 db67e_16 eb_11
noncomputable def d_L_786 := gq_5 db67e_16 eb_36
end
section
theorem db67f_0 : Pf_ code [(787, [0x2e]), (788, [0xb6, 0x00, 0x50]), (791, [0x36, 0x06]), (793, [0xa7, 0x06, 0x4d]), (796, [0x2b]), (797, [0x2a]), (798, [0x15, 0x04]), (800, [0x04]), (801, [0x60]), (802, [0x2e]), (803, [0x2a]), (804, [0x15, 0x04]), (806, [0x05]), (807, [0x60]), (808, [0x2e]), (809, [0xb6, 0x00, 0x51]), (812, [0x57]), (813, [0x2c]), (814, [0x2a]), (815, [0x15, 0x04]), (817, [0x04]), (818, [0x60]), (819, [0x2e]), (820, [0x2a])] := pf_ok code _ 787 (by decide +kernel)
noncomputable def d_L_787 := gq_0 db67f_0 eb_38
noncomputable def d_L_788 := gq_1 db67f_0 eb_1442
noncomputable def d_L_791 := gq_2 db67f_0 eb_59
noncomputable def d_L_793 := gq_3 db67f_0 eb_1443
noncomputable def d_L_796 := gq_4 db67f_0 eb_24
noncomputable def d_L_797 := gq_5 db67f_0 eb_0
noncomputable def d_L_798 := gq_6 db67f_0 eb_77
noncomputable def d_L_800 := gq_7 db67f_0 eb_20
noncomputable def d_L_801 := gq_8 db67f_0 eb_36
noncomputable def d_L_802 := gq_9 db67f_0 eb_38
noncomputable def d_L_803 := gq_10 db67f_0 eb_0
noncomputable def d_L_804 := gq_11 db67f_0 eb_77
noncomputable def d_L_806 := gq_12 db67f_0 eb_11
noncomputable def d_L_807 := gq_13 db67f_0 eb_36
noncomputable def d_L_808 := gq_14 db67f_0 eb_38
noncomputable def d_L_809 := gq_15 db67f_0 eb_1444
noncomputable def d_L_812 := gq_16 db67f_0 eb_483
noncomputable def d_L_813 := gq_17 db67f_0 eb_304
noncomputable def d_L_814 := gq_18 db67f_0 eb_0
noncomputable def d_L_815 := gq_19 db67f_0 eb_77
noncomputable def d_L_817 := gq_20 db67f_0 eb_20
noncomputable def d_L_818 := gq_21 db67f_0 eb_36
noncomputable def d_L_819 := gq_22 db67f_0 eb_38
noncomputable def d_L_820 := gq_23 db67f_0 eb_0
theorem db67f_1 : Pf_ code [(821, [0x15, 0x04]), (823, [0x05]), (824, [0x60]), (825, [0x2e]), (826, [0xb6, 0x00, 0x54]), (829, [0x57]), (830, [0xa7, 0x06, 0x28]), (833, [0x2b]), (834, [0x2a]), (835, [0x15, 0x04]), (837, [0x04]), (838, [0x60]), (839, [0x2e]), (840, [0x2a]), (841, [0x15, 0x04]), (843, [0x05]), (844, [0x60]), (845, [0x2e]), (846, [0x2a]), (847, [0x15, 0x04]), (849, [0x06]), (850, [0x60]), (851, [0x2e]), (852, [0xb6, 0x00, 0x55])] := pf_ok code _ 821 (by decide +kernel)
noncomputable def d_L_821 := gq_0 db67f_1 eb_77
noncomputable def d_L_823 := gq_1 db67f_1 eb_11
noncomputable def d_L_824 := gq_2 db67f_1 eb_36
noncomputable def d_L_825 := gq_3 db67f_1 eb_38
noncomputable def d_L_826 := gq_4 db67f_1 eb_159
noncomputable def d_L_829 := gq_5 db67f_1 eb_483
noncomputable def d_L_830 := gq_6 db67f_1 eb_1445
noncomputable def d_L_833 := gq_7 db67f_1 eb_24
noncomputable def d_L_834 := gq_8 db67f_1 eb_0
noncomputable def d_L_835 := gq_9 db67f_1 eb_77
noncomputable def d_L_837 := gq_10 db67f_1 eb_20
noncomputable def d_L_838 := gq_11 db67f_1 eb_36
noncomputable def d_L_839 := gq_12 db67f_1 eb_38
noncomputable def d_L_840 := gq_13 db67f_1 eb_0
noncomputable def d_L_841 := gq_14 db67f_1 eb_77
noncomputable def d_L_843 := gq_15 db67f_1 eb_11
noncomputable def d_L_844 := gq_16 db67f_1 eb_36
noncomputable def d_L_845 := gq_17 db67f_1 eb_38
noncomputable def d_L_846 := gq_18 db67f_1 eb_0
noncomputable def d_L_847 := gq_19 db67f_1 eb_77
noncomputable def d_L_849 := gq_20 db67f_1 eb_55
noncomputable def d_L_850 := gq_21 db67f_1 eb_36
noncomputable def d_L_851 := gq_22 db67f_1 eb_38
noncomputable def d_L_852 := gq_23 db67f_1 eb_486
theorem db67f_2 : Pf_ code [(855, [0x57]), (856, [0x2c]), (857, [0x2a]), (858, [0x15, 0x04]), (860, [0x04]), (861, [0x60]), (862, [0x2e]), (863, [0x2a]), (864, [0x15, 0x04]), (866, [0x05]), (867, [0x60]), (868, [0x2e]), (869, [0x2a]), (870, [0x15, 0x04]), (872, [0x06]), (873, [0x60]), (874, [0x2e]), (875, [0xb6, 0x00, 0x58]), (878, [0x57]), (879, [0xa7, 0x05, 0xf7]), (882, [0x2b]), (883, [0x2a]), (884, [0x15, 0x04]), (886, [0x04])] := pf_ok code _ 855 (by decide +kernel)
noncomputable def d_L_855 := gq_0 db67f_2 eb_483
noncomputable def d_L_856 := gq_1 db67f_2 eb_304
noncomputable def d_L_857 := gq_2 db67f_2 eb_0
noncomputable def d_L_858 := gq_3 db67f_2 eb_77
noncomputable def d_L_860 := gq_4 db67f_2 eb_20
noncomputable def d_L_861 := gq_5 db67f_2 eb_36
noncomputable def d_L_862 := gq_6 db67f_2 eb_38
noncomputable def d_L_863 := gq_7 db67f_2 eb_0
noncomputable def d_L_864 := gq_8 db67f_2 eb_77
noncomputable def d_L_866 := gq_9 db67f_2 eb_11
noncomputable def d_L_867 := gq_10 db67f_2 eb_36
noncomputable def d_L_868 := gq_11 db67f_2 eb_38
noncomputable def d_L_869 := gq_12 db67f_2 eb_0
noncomputable def d_L_870 := gq_13 db67f_2 eb_77
noncomputable def d_L_872 := gq_14 db67f_2 eb_55
noncomputable def d_L_873 := gq_15 db67f_2 eb_36
noncomputable def d_L_874 := gq_16 db67f_2 eb_38
noncomputable def d_L_875 := gq_17 db67f_2 eb_1446
noncomputable def d_L_878 := gq_18 db67f_2 eb_483
noncomputable def d_L_879 := gq_19 db67f_2 eb_1447
noncomputable def d_L_882 := gq_20 db67f_2 eb_24
noncomputable def d_L_883 := gq_21 db67f_2 eb_0
noncomputable def d_L_884 := gq_22 db67f_2 eb_77
noncomputable def d_L_886 := gq_23 db67f_2 eb_20
theorem db67f_3 : Pf_ code [(887, [0x60]), (888, [0x2e]), (889, [0x2a]), (890, [0x15, 0x04]), (892, [0x05]), (893, [0x60]), (894, [0x2e]), (895, [0xb6, 0x00, 0x59]), (898, [0x57]), (899, [0x2c]), (900, [0x2a]), (901, [0x15, 0x04]), (903, [0x04]), (904, [0x60]), (905, [0x2e]), (906, [0x2a]), (907, [0x15, 0x04]), (909, [0x05]), (910, [0x60]), (911, [0x2e]), (912, [0xb6, 0x00, 0x5c]), (915, [0x57]), (916, [0xa7, 0x05, 0xd2]), (919, [0x2b])] := pf_ok code _ 887 (by decide +kernel)
noncomputable def d_L_887 := gq_0 db67f_3 eb_36
noncomputable def d_L_888 := gq_1 db67f_3 eb_38
noncomputable def d_L_889 := gq_2 db67f_3 eb_0
noncomputable def d_L_890 := gq_3 db67f_3 eb_77
noncomputable def d_L_892 := gq_4 db67f_3 eb_11
noncomputable def d_L_893 := gq_5 db67f_3 eb_36
noncomputable def d_L_894 := gq_6 db67f_3 eb_38
noncomputable def d_L_895 := gq_7 db67f_3 eb_487
noncomputable def d_L_898 := gq_8 db67f_3 eb_483
noncomputable def d_L_899 := gq_9 db67f_3 eb_304
noncomputable def d_L_900 := gq_10 db67f_3 eb_0
noncomputable def d_L_901 := gq_11 db67f_3 eb_77
noncomputable def d_L_903 := gq_12 db67f_3 eb_20
noncomputable def d_L_904 := gq_13 db67f_3 eb_36
noncomputable def d_L_905 := gq_14 db67f_3 eb_38
noncomputable def d_L_906 := gq_15 db67f_3 eb_0
noncomputable def d_L_907 := gq_16 db67f_3 eb_77
noncomputable def d_L_909 := gq_17 db67f_3 eb_11
noncomputable def d_L_910 := gq_18 db67f_3 eb_36
noncomputable def d_L_911 := gq_19 db67f_3 eb_38
noncomputable def d_L_912 := gq_20 db67f_3 eb_489
noncomputable def d_L_915 := gq_21 db67f_3 eb_483
noncomputable def d_L_916 := gq_22 db67f_3 eb_1448
noncomputable def d_L_919 := gq_23 db67f_3 eb_24
theorem db67f_4 : Pf_ code [(920, [0x2a]), (921, [0x15, 0x04]), (923, [0x04]), (924, [0x60]), (925, [0x2e]), (926, [0x2a]), (927, [0x15, 0x04]), (929, [0x05]), (930, [0x60]), (931, [0x2e]), (932, [0xb6, 0x00, 0x5d]), (935, [0x57]), (936, [0x2c]), (937, [0x2a]), (938, [0x15, 0x04]), (940, [0x04]), (941, [0x60]), (942, [0x2e]), (943, [0x2a]), (944, [0x15, 0x04]), (946, [0x05]), (947, [0x60]), (948, [0x2e]), (949, [0xb6, 0x00, 0x60])] := pf_ok code _ 920 (by decide +kernel)
noncomputable def d_L_920 := gq_0 db67f_4 eb_0
noncomputable def d_L_921 := gq_1 db67f_4 eb_77
noncomputable def d_L_923 := gq_2 db67f_4 eb_20
noncomputable def d_L_924 := gq_3 db67f_4 eb_36
noncomputable def d_L_925 := gq_4 db67f_4 eb_38
noncomputable def d_L_926 := gq_5 db67f_4 eb_0
noncomputable def d_L_927 := gq_6 db67f_4 eb_77
noncomputable def d_L_929 := gq_7 db67f_4 eb_11
noncomputable def d_L_930 := gq_8 db67f_4 eb_36
noncomputable def d_L_931 := gq_9 db67f_4 eb_38
noncomputable def d_L_932 := gq_10 db67f_4 eb_165
noncomputable def d_L_935 := gq_11 db67f_4 eb_483
noncomputable def d_L_936 := gq_12 db67f_4 eb_304
noncomputable def d_L_937 := gq_13 db67f_4 eb_0
noncomputable def d_L_938 := gq_14 db67f_4 eb_77
noncomputable def d_L_940 := gq_15 db67f_4 eb_20
noncomputable def d_L_941 := gq_16 db67f_4 eb_36
noncomputable def d_L_942 := gq_17 db67f_4 eb_38
noncomputable def d_L_943 := gq_18 db67f_4 eb_0
noncomputable def d_L_944 := gq_19 db67f_4 eb_77
noncomputable def d_L_946 := gq_20 db67f_4 eb_11
noncomputable def d_L_947 := gq_21 db67f_4 eb_36
noncomputable def d_L_948 := gq_22 db67f_4 eb_38
noncomputable def d_L_949 := gq_23 db67f_4 eb_167
theorem db67f_5 : Pf_ code [(952, [0x57]), (953, [0xa7, 0x05, 0xad]), (956, [0x2b]), (957, [0x2a]), (958, [0x15, 0x04]), (960, [0x04]), (961, [0x60]), (962, [0x2e]), (963, [0x2a]), (964, [0x15, 0x04]), (966, [0x05]), (967, [0x60]), (968, [0x2e]), (969, [0x2a]), (970, [0x15, 0x04]), (972, [0x06]), (973, [0x60]), (974, [0x2e]), (975, [0x2a]), (976, [0x15, 0x04]), (978, [0x07]), (979, [0x60]), (980, [0x2e]), (981, [0x2a])] := pf_ok code _ 952 (by decide +kernel)
noncomputable def d_L_952 := gq_0 db67f_5 eb_483
noncomputable def d_L_953 := gq_1 db67f_5 eb_1449
noncomputable def d_L_956 := gq_2 db67f_5 eb_24
noncomputable def d_L_957 := gq_3 db67f_5 eb_0
noncomputable def d_L_958 := gq_4 db67f_5 eb_77
noncomputable def d_L_960 := gq_5 db67f_5 eb_20
noncomputable def d_L_961 := gq_6 db67f_5 eb_36
noncomputable def d_L_962 := gq_7 db67f_5 eb_38
noncomputable def d_L_963 := gq_8 db67f_5 eb_0
noncomputable def d_L_964 := gq_9 db67f_5 eb_77
noncomputable def d_L_966 := gq_10 db67f_5 eb_11
noncomputable def d_L_967 := gq_11 db67f_5 eb_36
noncomputable def d_L_968 := gq_12 db67f_5 eb_38
noncomputable def d_L_969 := gq_13 db67f_5 eb_0
noncomputable def d_L_970 := gq_14 db67f_5 eb_77
noncomputable def d_L_972 := gq_15 db67f_5 eb_55
noncomputable def d_L_973 := gq_16 db67f_5 eb_36
noncomputable def d_L_974 := gq_17 db67f_5 eb_38
noncomputable def d_L_975 := gq_18 db67f_5 eb_0
noncomputable def d_L_976 := gq_19 db67f_5 eb_77
noncomputable def d_L_978 := gq_20 db67f_5 eb_294
noncomputable def d_L_979 := gq_21 db67f_5 eb_36
noncomputable def d_L_980 := gq_22 db67f_5 eb_38
noncomputable def d_L_981 := gq_23 db67f_5 eb_0
theorem db67f_6 : Pf_ code [(982, [0x15, 0x04]), (984, [0x08]), (985, [0x60]), (986, [0x2e]), (987, [0xb6, 0x00, 0x61]), (990, [0x57]), (991, [0x2c]), (992, [0x2a]), (993, [0x15, 0x04]), (995, [0x04]), (996, [0x60]), (997, [0x2e]), (998, [0x2a]), (999, [0x15, 0x04]), (1001, [0x05]), (1002, [0x60]), (1003, [0x2e]), (1004, [0x2a]), (1005, [0x15, 0x04]), (1007, [0x06]), (1008, [0x60]), (1009, [0x2e]), (1010, [0x2a]), (1011, [0x15, 0x04])] := pf_ok code _ 982 (by decide +kernel)
noncomputable def d_L_982 := gq_0 db67f_6 eb_77
noncomputable def d_L_984 := gq_1 db67f_6 eb_123
noncomputable def d_L_985 := gq_2 db67f_6 eb_36
noncomputable def d_L_986 := gq_3 db67f_6 eb_38
noncomputable def d_L_987 := gq_4 db67f_6 eb_1450
noncomputable def d_L_990 := gq_5 db67f_6 eb_483
noncomputable def d_L_991 := gq_6 db67f_6 eb_304
noncomputable def d_L_992 := gq_7 db67f_6 eb_0
noncomputable def d_L_993 := gq_8 db67f_6 eb_77
noncomputable def d_L_995 := gq_9 db67f_6 eb_20
noncomputable def d_L_996 := gq_10 db67f_6 eb_36
noncomputable def d_L_997 := gq_11 db67f_6 eb_38
noncomputable def d_L_998 := gq_12 db67f_6 eb_0
noncomputable def d_L_999 := gq_13 db67f_6 eb_77
noncomputable def d_L_1001 := gq_14 db67f_6 eb_11
noncomputable def d_L_1002 := gq_15 db67f_6 eb_36
noncomputable def d_L_1003 := gq_16 db67f_6 eb_38
noncomputable def d_L_1004 := gq_17 db67f_6 eb_0
noncomputable def d_L_1005 := gq_18 db67f_6 eb_77
noncomputable def d_L_1007 := gq_19 db67f_6 eb_55
noncomputable def d_L_1008 := gq_20 db67f_6 eb_36
noncomputable def d_L_1009 := gq_21 db67f_6 eb_38
noncomputable def d_L_1010 := gq_22 db67f_6 eb_0
noncomputable def d_L_1011 := gq_23 db67f_6 eb_77
theorem db67f_7 : Pf_ code [(1013, [0x07]), (1014, [0x60]), (1015, [0x2e]), (1016, [0x2a]), (1017, [0x15, 0x04]), (1019, [0x08]), (1020, [0x60]), (1021, [0x2e]), (1022, [0xb6, 0x00, 0x64]), (1025, [0x57]), (1026, [0xa7, 0x05, 0x64]), (1029, [0x2b]), (1030, [0x2a]), (1031, [0x15, 0x04]), (1033, [0x04]), (1034, [0x60]), (1035, [0x2e]), (1036, [0xb6, 0x00, 0x65]), (1039, [0x57]), (1040, [0x2c]), (1041, [0x2a]), (1042, [0x15, 0x04]), (1044, [0x04]), (1045, [0x60])] := pf_ok code _ 1013 (by decide +kernel)
noncomputable def d_L_1013 := gq_0 db67f_7 eb_294
noncomputable def d_L_1014 := gq_1 db67f_7 eb_36
noncomputable def d_L_1015 := gq_2 db67f_7 eb_38
noncomputable def d_L_1016 := gq_3 db67f_7 eb_0
noncomputable def d_L_1017 := gq_4 db67f_7 eb_77
noncomputable def d_L_1019 := gq_5 db67f_7 eb_123
noncomputable def d_L_1020 := gq_6 db67f_7 eb_36
noncomputable def d_L_1021 := gq_7 db67f_7 eb_38
noncomputable def d_L_1022 := gq_8 db67f_7 eb_168
noncomputable def d_L_1025 := gq_9 db67f_7 eb_483
noncomputable def d_L_1026 := gq_10 db67f_7 eb_1451
noncomputable def d_L_1029 := gq_11 db67f_7 eb_24
noncomputable def d_L_1030 := gq_12 db67f_7 eb_0
noncomputable def d_L_1031 := gq_13 db67f_7 eb_77
noncomputable def d_L_1033 := gq_14 db67f_7 eb_20
noncomputable def d_L_1034 := gq_15 db67f_7 eb_36
noncomputable def d_L_1035 := gq_16 db67f_7 eb_38
noncomputable def d_L_1036 := gq_17 db67f_7 eb_501
noncomputable def d_L_1039 := gq_18 db67f_7 eb_483
noncomputable def d_L_1040 := gq_19 db67f_7 eb_304
noncomputable def d_L_1041 := gq_20 db67f_7 eb_0
noncomputable def d_L_1042 := gq_21 db67f_7 eb_77
noncomputable def d_L_1044 := gq_22 db67f_7 eb_20
noncomputable def d_L_1045 := gq_23 db67f_7 eb_36
theorem db67f_8 : Pf_ code [(1046, [0x2e]), (1047, [0xb6, 0x00, 0x68]), (1050, [0x57]), (1051, [0xa7, 0x05, 0x4b]), (1054, [0x2b]), (1055, [0x2a]), (1056, [0x15, 0x04]), (1058, [0x04]), (1059, [0x60]), (1060, [0x2e]), (1061, [0x2a]), (1062, [0x15, 0x04]), (1064, [0x05]), (1065, [0x60]), (1066, [0x2e]), (1067, [0xb6, 0x00, 0x69]), (1070, [0x57]), (1071, [0x2c]), (1072, [0x2a]), (1073, [0x15, 0x04]), (1075, [0x04]), (1076, [0x60]), (1077, [0x2e]), (1078, [0x2a])] := pf_ok code _ 1046 (by decide +kernel)
noncomputable def d_L_1046 := gq_0 db67f_8 eb_38
noncomputable def d_L_1047 := gq_1 db67f_8 eb_1452
noncomputable def d_L_1050 := gq_2 db67f_8 eb_483
noncomputable def d_L_1051 := gq_3 db67f_8 eb_1453
noncomputable def d_L_1054 := gq_4 db67f_8 eb_24
noncomputable def d_L_1055 := gq_5 db67f_8 eb_0
noncomputable def d_L_1056 := gq_6 db67f_8 eb_77
noncomputable def d_L_1058 := gq_7 db67f_8 eb_20
noncomputable def d_L_1059 := gq_8 db67f_8 eb_36
noncomputable def d_L_1060 := gq_9 db67f_8 eb_38
noncomputable def d_L_1061 := gq_10 db67f_8 eb_0
noncomputable def d_L_1062 := gq_11 db67f_8 eb_77
noncomputable def d_L_1064 := gq_12 db67f_8 eb_11
noncomputable def d_L_1065 := gq_13 db67f_8 eb_36
noncomputable def d_L_1066 := gq_14 db67f_8 eb_38
noncomputable def d_L_1067 := gq_15 db67f_8 eb_1454
noncomputable def d_L_1070 := gq_16 db67f_8 eb_483
noncomputable def d_L_1071 := gq_17 db67f_8 eb_304
noncomputable def d_L_1072 := gq_18 db67f_8 eb_0
noncomputable def d_L_1073 := gq_19 db67f_8 eb_77
noncomputable def d_L_1075 := gq_20 db67f_8 eb_20
noncomputable def d_L_1076 := gq_21 db67f_8 eb_36
noncomputable def d_L_1077 := gq_22 db67f_8 eb_38
noncomputable def d_L_1078 := gq_23 db67f_8 eb_0
theorem db67f_9 : Pf_ code [(1079, [0x15, 0x04]), (1081, [0x05]), (1082, [0x60]), (1083, [0x2e]), (1084, [0xb6, 0x00, 0x6c]), (1087, [0x57]), (1088, [0xa7, 0x05, 0x26]), (1091, [0x2b]), (1092, [0x2a]), (1093, [0x15, 0x04]), (1095, [0x04]), (1096, [0x60]), (1097, [0x2e]), (1098, [0x2a]), (1099, [0x15, 0x04]), (1101, [0x05]), (1102, [0x60]), (1103, [0x2e]), (1104, [0xb6, 0x00, 0x6d]), (1107, [0x57]), (1108, [0x2c]), (1109, [0x2a]), (1110, [0x15, 0x04]), (1112, [0x04])] := pf_ok code _ 1079 (by decide +kernel)
noncomputable def d_L_1079 := gq_0 db67f_9 eb_77
noncomputable def d_L_1081 := gq_1 db67f_9 eb_11
noncomputable def d_L_1082 := gq_2 db67f_9 eb_36
noncomputable def d_L_1083 := gq_3 db67f_9 eb_38
noncomputable def d_L_1084 := gq_4 db67f_9 eb_1455
noncomputable def d_L_1087 := gq_5 db67f_9 eb_483
noncomputable def d_L_1088 := gq_6 db67f_9 eb_1456
noncomputable def d_L_1091 := gq_7 db67f_9 eb_24
noncomputable def d_L_1092 := gq_8 db67f_9 eb_0
noncomputable def d_L_1093 := gq_9 db67f_9 eb_77
noncomputable def d_L_1095 := gq_10 db67f_9 eb_20
noncomputable def d_L_1096 := gq_11 db67f_9 eb_36
noncomputable def d_L_1097 := gq_12 db67f_9 eb_38
noncomputable def d_L_1098 := gq_13 db67f_9 eb_0
noncomputable def d_L_1099 := gq_14 db67f_9 eb_77
noncomputable def d_L_1101 := gq_15 db67f_9 eb_11
noncomputable def d_L_1102 := gq_16 db67f_9 eb_36
noncomputable def d_L_1103 := gq_17 db67f_9 eb_38
noncomputable def d_L_1104 := gq_18 db67f_9 eb_1457
noncomputable def d_L_1107 := gq_19 db67f_9 eb_483
noncomputable def d_L_1108 := gq_20 db67f_9 eb_304
noncomputable def d_L_1109 := gq_21 db67f_9 eb_0
noncomputable def d_L_1110 := gq_22 db67f_9 eb_77
noncomputable def d_L_1112 := gq_23 db67f_9 eb_20
theorem db67f_10 : Pf_ code [(1113, [0x60]), (1114, [0x2e]), (1115, [0x2a]), (1116, [0x15, 0x04]), (1118, [0x05]), (1119, [0x60]), (1120, [0x2e]), (1121, [0xb6, 0x00, 0x70]), (1124, [0x57]), (1125, [0xa7, 0x05, 0x01]), (1128, [0x2b]), (1129, [0x2a]), (1130, [0x15, 0x04]), (1132, [0x04]), (1133, [0x60]), (1134, [0x2e]), (1135, [0x2a]), (1136, [0x15, 0x04]), (1138, [0x05]), (1139, [0x60]), (1140, [0x2e]), (1141, [0xb6, 0x00, 0x71]), (1144, [0x57]), (1145, [0x2c])] := pf_ok code _ 1113 (by decide +kernel)
noncomputable def d_L_1113 := gq_0 db67f_10 eb_36
noncomputable def d_L_1114 := gq_1 db67f_10 eb_38
noncomputable def d_L_1115 := gq_2 db67f_10 eb_0
noncomputable def d_L_1116 := gq_3 db67f_10 eb_77
noncomputable def d_L_1118 := gq_4 db67f_10 eb_11
noncomputable def d_L_1119 := gq_5 db67f_10 eb_36
noncomputable def d_L_1120 := gq_6 db67f_10 eb_38
noncomputable def d_L_1121 := gq_7 db67f_10 eb_509
noncomputable def d_L_1124 := gq_8 db67f_10 eb_483
noncomputable def d_L_1125 := gq_9 db67f_10 eb_1458
noncomputable def d_L_1128 := gq_10 db67f_10 eb_24
noncomputable def d_L_1129 := gq_11 db67f_10 eb_0
noncomputable def d_L_1130 := gq_12 db67f_10 eb_77
noncomputable def d_L_1132 := gq_13 db67f_10 eb_20
noncomputable def d_L_1133 := gq_14 db67f_10 eb_36
noncomputable def d_L_1134 := gq_15 db67f_10 eb_38
noncomputable def d_L_1135 := gq_16 db67f_10 eb_0
noncomputable def d_L_1136 := gq_17 db67f_10 eb_77
noncomputable def d_L_1138 := gq_18 db67f_10 eb_11
noncomputable def d_L_1139 := gq_19 db67f_10 eb_36
noncomputable def d_L_1140 := gq_20 db67f_10 eb_38
noncomputable def d_L_1141 := gq_21 db67f_10 eb_1459
noncomputable def d_L_1144 := gq_22 db67f_10 eb_483
noncomputable def d_L_1145 := gq_23 db67f_10 eb_304
theorem db67f_11 : Pf_ code [(1146, [0x2a]), (1147, [0x15, 0x04]), (1149, [0x04]), (1150, [0x60]), (1151, [0x2e]), (1152, [0x2a]), (1153, [0x15, 0x04]), (1155, [0x05]), (1156, [0x60]), (1157, [0x2e]), (1158, [0xb6, 0x00, 0x74]), (1161, [0x57]), (1162, [0xa7, 0x04, 0xdc]), (1165, [0x2b]), (1166, [0x2a]), (1167, [0x15, 0x04]), (1169, [0x04]), (1170, [0x60]), (1171, [0x2e]), (1172, [0xb6, 0x00, 0x75]), (1175, [0x2c]), (1176, [0x2a]), (1177, [0x15, 0x04]), (1179, [0x04])] := pf_ok code _ 1146 (by decide +kernel)
noncomputable def d_L_1146 := gq_0 db67f_11 eb_0
noncomputable def d_L_1147 := gq_1 db67f_11 eb_77
noncomputable def d_L_1149 := gq_2 db67f_11 eb_20
noncomputable def d_L_1150 := gq_3 db67f_11 eb_36
noncomputable def d_L_1151 := gq_4 db67f_11 eb_38
noncomputable def d_L_1152 := gq_5 db67f_11 eb_0
noncomputable def d_L_1153 := gq_6 db67f_11 eb_77
noncomputable def d_L_1155 := gq_7 db67f_11 eb_11
noncomputable def d_L_1156 := gq_8 db67f_11 eb_36
noncomputable def d_L_1157 := gq_9 db67f_11 eb_38
noncomputable def d_L_1158 := gq_10 db67f_11 eb_1460
noncomputable def d_L_1161 := gq_11 db67f_11 eb_483
noncomputable def d_L_1162 := gq_12 db67f_11 eb_1461
noncomputable def d_L_1165 := gq_13 db67f_11 eb_24
noncomputable def d_L_1166 := gq_14 db67f_11 eb_0
noncomputable def d_L_1167 := gq_15 db67f_11 eb_77
noncomputable def d_L_1169 := gq_16 db67f_11 eb_20
noncomputable def d_L_1170 := gq_17 db67f_11 eb_36
noncomputable def d_L_1171 := gq_18 db67f_11 eb_38
noncomputable def d_L_1172 := gq_19 db67f_11 eb_1462
noncomputable def d_L_1175 := gq_20 db67f_11 eb_304
noncomputable def d_L_1176 := gq_21 db67f_11 eb_0
noncomputable def d_L_1177 := gq_22 db67f_11 eb_77
noncomputable def d_L_1179 := gq_23 db67f_11 eb_20
theorem db67f_12 : Pf_ code [(1180, [0x60]), (1181, [0x2e]), (1182, [0xb6, 0x00, 0x78]), (1185, [0x9f, 0x04, 0xc5]), (1188, [0x03]), (1189, [0xac]), (1190, [0x2b]), (1191, [0x2a]), (1192, [0x15, 0x04]), (1194, [0x04]), (1195, [0x60]), (1196, [0x2e]), (1197, [0xb6, 0x00, 0x79]), (1200, [0x57]), (1201, [0x2c]), (1202, [0x2a]), (1203, [0x15, 0x04]), (1205, [0x04]), (1206, [0x60]), (1207, [0x2e]), (1208, [0xb6, 0x00, 0x7c]), (1211, [0x57]), (1212, [0xa7, 0x04, 0xaa]), (1215, [0x2b])] := pf_ok code _ 1180 (by decide +kernel)
noncomputable def d_L_1180 := gq_0 db67f_12 eb_36
noncomputable def d_L_1181 := gq_1 db67f_12 eb_38
noncomputable def d_L_1182 := gq_2 db67f_12 eb_1463
noncomputable def d_L_1185 := gq_3 db67f_12 eb_1464
noncomputable def d_L_1190 := gq_6 db67f_12 eb_24
noncomputable def d_L_1191 := gq_7 db67f_12 eb_0
noncomputable def d_L_1192 := gq_8 db67f_12 eb_77
noncomputable def d_L_1194 := gq_9 db67f_12 eb_20
noncomputable def d_L_1195 := gq_10 db67f_12 eb_36
noncomputable def d_L_1196 := gq_11 db67f_12 eb_38
noncomputable def d_L_1197 := gq_12 db67f_12 eb_515
noncomputable def d_L_1200 := gq_13 db67f_12 eb_483
noncomputable def d_L_1201 := gq_14 db67f_12 eb_304
noncomputable def d_L_1202 := gq_15 db67f_12 eb_0
noncomputable def d_L_1203 := gq_16 db67f_12 eb_77
noncomputable def d_L_1205 := gq_17 db67f_12 eb_20
noncomputable def d_L_1206 := gq_18 db67f_12 eb_36
noncomputable def d_L_1207 := gq_19 db67f_12 eb_38
noncomputable def d_L_1208 := gq_20 db67f_12 eb_1465
noncomputable def d_L_1211 := gq_21 db67f_12 eb_483
noncomputable def d_L_1212 := gq_22 db67f_12 eb_1466
noncomputable def d_L_1215 := gq_23 db67f_12 eb_24
theorem db67f_13 : Pf_ code [(1216, [0x2a]), (1217, [0x15, 0x04]), (1219, [0x04]), (1220, [0x60]), (1221, [0x2e]), (1222, [0x2a]), (1223, [0x15, 0x04]), (1225, [0x05]), (1226, [0x60]), (1227, [0x2e]), (1228, [0xb6, 0x00, 0x7d]), (1231, [0x57]), (1232, [0x2c]), (1233, [0x2a]), (1234, [0x15, 0x04]), (1236, [0x04]), (1237, [0x60]), (1238, [0x2e]), (1239, [0x2a]), (1240, [0x15, 0x04]), (1242, [0x05]), (1243, [0x60]), (1244, [0x2e]), (1245, [0xb6, 0x00, 0x80])] := pf_ok code _ 1216 (by decide +kernel)
noncomputable def d_L_1216 := gq_0 db67f_13 eb_0
noncomputable def d_L_1217 := gq_1 db67f_13 eb_77
noncomputable def d_L_1219 := gq_2 db67f_13 eb_20
noncomputable def d_L_1220 := gq_3 db67f_13 eb_36
noncomputable def d_L_1221 := gq_4 db67f_13 eb_38
noncomputable def d_L_1222 := gq_5 db67f_13 eb_0
noncomputable def d_L_1223 := gq_6 db67f_13 eb_77
noncomputable def d_L_1225 := gq_7 db67f_13 eb_11
noncomputable def d_L_1226 := gq_8 db67f_13 eb_36
noncomputable def d_L_1227 := gq_9 db67f_13 eb_38
noncomputable def d_L_1228 := gq_10 db67f_13 eb_1467
noncomputable def d_L_1231 := gq_11 db67f_13 eb_483
noncomputable def d_L_1232 := gq_12 db67f_13 eb_304
noncomputable def d_L_1233 := gq_13 db67f_13 eb_0
noncomputable def d_L_1234 := gq_14 db67f_13 eb_77
noncomputable def d_L_1236 := gq_15 db67f_13 eb_20
noncomputable def d_L_1237 := gq_16 db67f_13 eb_36
noncomputable def d_L_1238 := gq_17 db67f_13 eb_38
noncomputable def d_L_1239 := gq_18 db67f_13 eb_0
noncomputable def d_L_1240 := gq_19 db67f_13 eb_77
noncomputable def d_L_1242 := gq_20 db67f_13 eb_11
noncomputable def d_L_1243 := gq_21 db67f_13 eb_36
noncomputable def d_L_1244 := gq_22 db67f_13 eb_38
noncomputable def d_L_1245 := gq_23 db67f_13 eb_1468
theorem db67f_14 : Pf_ code [(1248, [0x57]), (1249, [0xa7, 0x04, 0x85]), (1252, [0x2b]), (1253, [0x2a]), (1254, [0x15, 0x04]), (1256, [0x04]), (1257, [0x60]), (1258, [0x2e]), (1259, [0x2a]), (1260, [0x15, 0x04]), (1262, [0x05]), (1263, [0x60]), (1264, [0x2e]), (1265, [0xb6, 0x00, 0x81]), (1268, [0x57]), (1269, [0x2c]), (1270, [0x2a]), (1271, [0x15, 0x04]), (1273, [0x04]), (1274, [0x60]), (1275, [0x2e]), (1276, [0x2a]), (1277, [0x15, 0x04]), (1279, [0x05])] := pf_ok code _ 1248 (by decide +kernel)
noncomputable def d_L_1248 := gq_0 db67f_14 eb_483
noncomputable def d_L_1249 := gq_1 db67f_14 eb_1469
noncomputable def d_L_1252 := gq_2 db67f_14 eb_24
noncomputable def d_L_1253 := gq_3 db67f_14 eb_0
noncomputable def d_L_1254 := gq_4 db67f_14 eb_77
noncomputable def d_L_1256 := gq_5 db67f_14 eb_20
noncomputable def d_L_1257 := gq_6 db67f_14 eb_36
noncomputable def d_L_1258 := gq_7 db67f_14 eb_38
noncomputable def d_L_1259 := gq_8 db67f_14 eb_0
noncomputable def d_L_1260 := gq_9 db67f_14 eb_77
noncomputable def d_L_1262 := gq_10 db67f_14 eb_11
noncomputable def d_L_1263 := gq_11 db67f_14 eb_36
noncomputable def d_L_1264 := gq_12 db67f_14 eb_38
noncomputable def d_L_1265 := gq_13 db67f_14 eb_643
noncomputable def d_L_1268 := gq_14 db67f_14 eb_483
noncomputable def d_L_1269 := gq_15 db67f_14 eb_304
noncomputable def d_L_1270 := gq_16 db67f_14 eb_0
noncomputable def d_L_1271 := gq_17 db67f_14 eb_77
noncomputable def d_L_1273 := gq_18 db67f_14 eb_20
noncomputable def d_L_1274 := gq_19 db67f_14 eb_36
noncomputable def d_L_1275 := gq_20 db67f_14 eb_38
noncomputable def d_L_1276 := gq_21 db67f_14 eb_0
noncomputable def d_L_1277 := gq_22 db67f_14 eb_77
noncomputable def d_L_1279 := gq_23 db67f_14 eb_11
theorem db67f_15 : Pf_ code [(1280, [0x60]), (1281, [0x2e]), (1282, [0xb6, 0x00, 0x84]), (1285, [0x57]), (1286, [0xa7, 0x04, 0x60]), (1289, [0x2b]), (1290, [0x2a]), (1291, [0x15, 0x04]), (1293, [0x04]), (1294, [0x60]), (1295, [0x2e]), (1296, [0x2a]), (1297, [0x15, 0x04]), (1299, [0x05]), (1300, [0x60]), (1301, [0x2e]), (1302, [0x2a]), (1303, [0x15, 0x04]), (1305, [0x06]), (1306, [0x60]), (1307, [0x2e]), (1308, [0x2a]), (1309, [0x15, 0x04]), (1311, [0x07])] := pf_ok code _ 1280 (by decide +kernel)
noncomputable def d_L_1280 := gq_0 db67f_15 eb_36
noncomputable def d_L_1281 := gq_1 db67f_15 eb_38
noncomputable def d_L_1282 := gq_2 db67f_15 eb_1470
noncomputable def d_L_1285 := gq_3 db67f_15 eb_483
noncomputable def d_L_1286 := gq_4 db67f_15 eb_1471
noncomputable def d_L_1289 := gq_5 db67f_15 eb_24
noncomputable def d_L_1290 := gq_6 db67f_15 eb_0
noncomputable def d_L_1291 := gq_7 db67f_15 eb_77
noncomputable def d_L_1293 := gq_8 db67f_15 eb_20
noncomputable def d_L_1294 := gq_9 db67f_15 eb_36
noncomputable def d_L_1295 := gq_10 db67f_15 eb_38
noncomputable def d_L_1296 := gq_11 db67f_15 eb_0
noncomputable def d_L_1297 := gq_12 db67f_15 eb_77
noncomputable def d_L_1299 := gq_13 db67f_15 eb_11
noncomputable def d_L_1300 := gq_14 db67f_15 eb_36
noncomputable def d_L_1301 := gq_15 db67f_15 eb_38
noncomputable def d_L_1302 := gq_16 db67f_15 eb_0
noncomputable def d_L_1303 := gq_17 db67f_15 eb_77
noncomputable def d_L_1305 := gq_18 db67f_15 eb_55
noncomputable def d_L_1306 := gq_19 db67f_15 eb_36
noncomputable def d_L_1307 := gq_20 db67f_15 eb_38
noncomputable def d_L_1308 := gq_21 db67f_15 eb_0
noncomputable def d_L_1309 := gq_22 db67f_15 eb_77
noncomputable def d_L_1311 := gq_23 db67f_15 eb_294
theorem db67f_16 : Pf_ code [(1312, [0x60]), (1313, [0x2e]), (1314, [0x99, 0x00, 0x07]), (1317, [0x04]), (1318, [0xa7, 0x00, 0x04]), (1321, [0x03]), (1322, [0xb6, 0x00, 0x85])] := pf_ok code _ 1312 (by decide +kernel)
noncomputable def d_L_1312 := gq_0 db67f_16 eb_36
noncomputable def d_L_1313 := gq_1 db67f_16 eb_38
noncomputable def d_L_1314 := gq_2 db67f_16 eb_124
noncomputable def d_L_1317 := gq_3 db67f_16 eb_20
noncomputable def d_L_1318 := gq_4 db67f_16 eb_21
noncomputable def d_L_1321 := gq_5 db67f_16 eb_22
noncomputable def d_L_1322 := gq_6 db67f_16 eb_644
end
section
theorem db67g_0 : Pf_ code [(1325, [0x57]), (1326, [0x2c]), (1327, [0x2a]), (1328, [0x15, 0x04]), (1330, [0x04]), (1331, [0x60]), (1332, [0x2e]), (1333, [0x2a]), (1334, [0x15, 0x04]), (1336, [0x05]), (1337, [0x60]), (1338, [0x2e]), (1339, [0x2a]), (1340, [0x15, 0x04]), (1342, [0x06]), (1343, [0x60]), (1344, [0x2e]), (1345, [0x2a]), (1346, [0x15, 0x04]), (1348, [0x07]), (1349, [0x60]), (1350, [0x2e]), (1351, [0x99, 0x00, 0x07]), (1354, [0x04])] := pf_ok code _ 1325 (by decide +kernel)
noncomputable def d_L_1325 := gq_0 db67g_0 eb_483
noncomputable def d_L_1326 := gq_1 db67g_0 eb_304
noncomputable def d_L_1327 := gq_2 db67g_0 eb_0
noncomputable def d_L_1328 := gq_3 db67g_0 eb_77
noncomputable def d_L_1330 := gq_4 db67g_0 eb_20
noncomputable def d_L_1331 := gq_5 db67g_0 eb_36
noncomputable def d_L_1332 := gq_6 db67g_0 eb_38
noncomputable def d_L_1333 := gq_7 db67g_0 eb_0
noncomputable def d_L_1334 := gq_8 db67g_0 eb_77
noncomputable def d_L_1336 := gq_9 db67g_0 eb_11
noncomputable def d_L_1337 := gq_10 db67g_0 eb_36
noncomputable def d_L_1338 := gq_11 db67g_0 eb_38
noncomputable def d_L_1339 := gq_12 db67g_0 eb_0
noncomputable def d_L_1340 := gq_13 db67g_0 eb_77
noncomputable def d_L_1342 := gq_14 db67g_0 eb_55
noncomputable def d_L_1343 := gq_15 db67g_0 eb_36
noncomputable def d_L_1344 := gq_16 db67g_0 eb_38
noncomputable def d_L_1345 := gq_17 db67g_0 eb_0
noncomputable def d_L_1346 := gq_18 db67g_0 eb_77
noncomputable def d_L_1348 := gq_19 db67g_0 eb_294
noncomputable def d_L_1349 := gq_20 db67g_0 eb_36
noncomputable def d_L_1350 := gq_21 db67g_0 eb_38
noncomputable def d_L_1351 := gq_22 db67g_0 eb_124
noncomputable def d_L_1354 := gq_23 db67g_0 eb_20
theorem db67g_1 : Pf_ code [(1355, [0xa7, 0x00, 0x04]), (1358, [0x03]), (1359, [0xb6, 0x00, 0x89]), (1362, [0x57]), (1363, [0xa7, 0x04, 0x13]), (1366, [0x2b]), (1367, [0x2a]), (1368, [0x15, 0x04]), (1370, [0x04]), (1371, [0x60]), (1372, [0x2e]), (1373, [0xb6, 0x00, 0x8a]), (1376, [0x57]), (1377, [0x2c]), (1378, [0x2a]), (1379, [0x15, 0x04]), (1381, [0x04]), (1382, [0x60]), (1383, [0x2e]), (1384, [0xb6, 0x00, 0x8d]), (1387, [0x57]), (1388, [0xa7, 0x03, 0xfa]), (1391, [0x2b]), (1392, [0x2a])] := pf_ok code _ 1355 (by decide +kernel)
noncomputable def d_L_1355 := gq_0 db67g_1 eb_21
noncomputable def d_L_1358 := gq_1 db67g_1 eb_22
noncomputable def d_L_1359 := gq_2 db67g_1 eb_524
noncomputable def d_L_1362 := gq_3 db67g_1 eb_483
noncomputable def d_L_1363 := gq_4 db67g_1 eb_1472
noncomputable def d_L_1366 := gq_5 db67g_1 eb_24
noncomputable def d_L_1367 := gq_6 db67g_1 eb_0
noncomputable def d_L_1368 := gq_7 db67g_1 eb_77
noncomputable def d_L_1370 := gq_8 db67g_1 eb_20
noncomputable def d_L_1371 := gq_9 db67g_1 eb_36
noncomputable def d_L_1372 := gq_10 db67g_1 eb_38
noncomputable def d_L_1373 := gq_11 db67g_1 eb_1473
noncomputable def d_L_1376 := gq_12 db67g_1 eb_483
noncomputable def d_L_1377 := gq_13 db67g_1 eb_304
noncomputable def d_L_1378 := gq_14 db67g_1 eb_0
noncomputable def d_L_1379 := gq_15 db67g_1 eb_77
noncomputable def d_L_1381 := gq_16 db67g_1 eb_20
noncomputable def d_L_1382 := gq_17 db67g_1 eb_36
noncomputable def d_L_1383 := gq_18 db67g_1 eb_38
noncomputable def d_L_1384 := gq_19 db67g_1 eb_1474
noncomputable def d_L_1387 := gq_20 db67g_1 eb_483
noncomputable def d_L_1388 := gq_21 db67g_1 eb_1475
noncomputable def d_L_1391 := gq_22 db67g_1 eb_24
noncomputable def d_L_1392 := gq_23 db67g_1 eb_0
theorem db67g_2 : Pf_ code [(1393, [0x15, 0x04]), (1395, [0x04]), (1396, [0x60]), (1397, [0x2e]), (1398, [0x2a]), (1399, [0x15, 0x04]), (1401, [0x05]), (1402, [0x60]), (1403, [0x2e]), (1404, [0x2a]), (1405, [0x15, 0x04]), (1407, [0x06]), (1408, [0x60]), (1409, [0x2e]), (1410, [0xb6, 0x00, 0x8e]), (1413, [0x57]), (1414, [0x2c]), (1415, [0x2a]), (1416, [0x15, 0x04]), (1418, [0x04]), (1419, [0x60]), (1420, [0x2e]), (1421, [0x2a]), (1422, [0x15, 0x04])] := pf_ok code _ 1393 (by decide +kernel)
noncomputable def d_L_1393 := gq_0 db67g_2 eb_77
noncomputable def d_L_1395 := gq_1 db67g_2 eb_20
noncomputable def d_L_1396 := gq_2 db67g_2 eb_36
noncomputable def d_L_1397 := gq_3 db67g_2 eb_38
noncomputable def d_L_1398 := gq_4 db67g_2 eb_0
noncomputable def d_L_1399 := gq_5 db67g_2 eb_77
noncomputable def d_L_1401 := gq_6 db67g_2 eb_11
noncomputable def d_L_1402 := gq_7 db67g_2 eb_36
noncomputable def d_L_1403 := gq_8 db67g_2 eb_38
noncomputable def d_L_1404 := gq_9 db67g_2 eb_0
noncomputable def d_L_1405 := gq_10 db67g_2 eb_77
noncomputable def d_L_1407 := gq_11 db67g_2 eb_55
noncomputable def d_L_1408 := gq_12 db67g_2 eb_36
noncomputable def d_L_1409 := gq_13 db67g_2 eb_38
noncomputable def d_L_1410 := gq_14 db67g_2 eb_1476
noncomputable def d_L_1413 := gq_15 db67g_2 eb_483
noncomputable def d_L_1414 := gq_16 db67g_2 eb_304
noncomputable def d_L_1415 := gq_17 db67g_2 eb_0
noncomputable def d_L_1416 := gq_18 db67g_2 eb_77
noncomputable def d_L_1418 := gq_19 db67g_2 eb_20
noncomputable def d_L_1419 := gq_20 db67g_2 eb_36
noncomputable def d_L_1420 := gq_21 db67g_2 eb_38
noncomputable def d_L_1421 := gq_22 db67g_2 eb_0
noncomputable def d_L_1422 := gq_23 db67g_2 eb_77
theorem db67g_3 : Pf_ code [(1424, [0x05]), (1425, [0x60]), (1426, [0x2e]), (1427, [0x2a]), (1428, [0x15, 0x04]), (1430, [0x06]), (1431, [0x60]), (1432, [0x2e]), (1433, [0xb6, 0x00, 0x91]), (1436, [0x57]), (1437, [0xa7, 0x03, 0xc9]), (1440, [0x2b]), (1441, [0x2a]), (1442, [0x15, 0x04]), (1444, [0x04]), (1445, [0x60]), (1446, [0x2e]), (1447, [0x2a]), (1448, [0x15, 0x04]), (1450, [0x05]), (1451, [0x60]), (1452, [0x2e]), (1453, [0x2a]), (1454, [0x15, 0x04])] := pf_ok code _ 1424 (by decide +kernel)
noncomputable def d_L_1424 := gq_0 db67g_3 eb_11
noncomputable def d_L_1425 := gq_1 db67g_3 eb_36
noncomputable def d_L_1426 := gq_2 db67g_3 eb_38
noncomputable def d_L_1427 := gq_3 db67g_3 eb_0
noncomputable def d_L_1428 := gq_4 db67g_3 eb_77
noncomputable def d_L_1430 := gq_5 db67g_3 eb_55
noncomputable def d_L_1431 := gq_6 db67g_3 eb_36
noncomputable def d_L_1432 := gq_7 db67g_3 eb_38
noncomputable def d_L_1433 := gq_8 db67g_3 eb_1477
noncomputable def d_L_1436 := gq_9 db67g_3 eb_483
noncomputable def d_L_1437 := gq_10 db67g_3 eb_1478
noncomputable def d_L_1440 := gq_11 db67g_3 eb_24
noncomputable def d_L_1441 := gq_12 db67g_3 eb_0
noncomputable def d_L_1442 := gq_13 db67g_3 eb_77
noncomputable def d_L_1444 := gq_14 db67g_3 eb_20
noncomputable def d_L_1445 := gq_15 db67g_3 eb_36
noncomputable def d_L_1446 := gq_16 db67g_3 eb_38
noncomputable def d_L_1447 := gq_17 db67g_3 eb_0
noncomputable def d_L_1448 := gq_18 db67g_3 eb_77
noncomputable def d_L_1450 := gq_19 db67g_3 eb_11
noncomputable def d_L_1451 := gq_20 db67g_3 eb_36
noncomputable def d_L_1452 := gq_21 db67g_3 eb_38
noncomputable def d_L_1453 := gq_22 db67g_3 eb_0
noncomputable def d_L_1454 := gq_23 db67g_3 eb_77
theorem db67g_4 : Pf_ code [(1456, [0x06]), (1457, [0x60]), (1458, [0x2e]), (1459, [0xb6, 0x00, 0x92]), (1462, [0x57]), (1463, [0x2c]), (1464, [0x2a]), (1465, [0x15, 0x04]), (1467, [0x04]), (1468, [0x60]), (1469, [0x2e]), (1470, [0x2a]), (1471, [0x15, 0x04]), (1473, [0x05]), (1474, [0x60]), (1475, [0x2e]), (1476, [0x2a]), (1477, [0x15, 0x04]), (1479, [0x06]), (1480, [0x60]), (1481, [0x2e]), (1482, [0xb6, 0x00, 0x95]), (1485, [0x57]), (1486, [0xa7, 0x03, 0x98])] := pf_ok code _ 1456 (by decide +kernel)
noncomputable def d_L_1456 := gq_0 db67g_4 eb_55
noncomputable def d_L_1457 := gq_1 db67g_4 eb_36
noncomputable def d_L_1458 := gq_2 db67g_4 eb_38
noncomputable def d_L_1459 := gq_3 db67g_4 eb_526
noncomputable def d_L_1462 := gq_4 db67g_4 eb_483
noncomputable def d_L_1463 := gq_5 db67g_4 eb_304
noncomputable def d_L_1464 := gq_6 db67g_4 eb_0
noncomputable def d_L_1465 := gq_7 db67g_4 eb_77
noncomputable def d_L_1467 := gq_8 db67g_4 eb_20
noncomputable def d_L_1468 := gq_9 db67g_4 eb_36
noncomputable def d_L_1469 := gq_10 db67g_4 eb_38
noncomputable def d_L_1470 := gq_11 db67g_4 eb_0
noncomputable def d_L_1471 := gq_12 db67g_4 eb_77
noncomputable def d_L_1473 := gq_13 db67g_4 eb_11
noncomputable def d_L_1474 := gq_14 db67g_4 eb_36
noncomputable def d_L_1475 := gq_15 db67g_4 eb_38
noncomputable def d_L_1476 := gq_16 db67g_4 eb_0
noncomputable def d_L_1477 := gq_17 db67g_4 eb_77
noncomputable def d_L_1479 := gq_18 db67g_4 eb_55
noncomputable def d_L_1480 := gq_19 db67g_4 eb_36
noncomputable def d_L_1481 := gq_20 db67g_4 eb_38
noncomputable def d_L_1482 := gq_21 db67g_4 eb_1479
noncomputable def d_L_1485 := gq_22 db67g_4 eb_483
noncomputable def d_L_1486 := gq_23 db67g_4 eb_1480
theorem db67g_5 : Pf_ code [(1489, [0x2b]), (1490, [0x2a]), (1491, [0x15, 0x04]), (1493, [0x04]), (1494, [0x60]), (1495, [0x2e]), (1496, [0x2a]), (1497, [0x15, 0x04]), (1499, [0x05]), (1500, [0x60]), (1501, [0x2e]), (1502, [0x2a]), (1503, [0x15, 0x04]), (1505, [0x06]), (1506, [0x60]), (1507, [0x2e]), (1508, [0xb6, 0x00, 0x96]), (1511, [0x57]), (1512, [0x2c]), (1513, [0x2a]), (1514, [0x15, 0x04]), (1516, [0x04]), (1517, [0x60]), (1518, [0x2e])] := pf_ok code _ 1489 (by decide +kernel)
noncomputable def d_L_1489 := gq_0 db67g_5 eb_24
noncomputable def d_L_1490 := gq_1 db67g_5 eb_0
noncomputable def d_L_1491 := gq_2 db67g_5 eb_77
noncomputable def d_L_1493 := gq_3 db67g_5 eb_20
noncomputable def d_L_1494 := gq_4 db67g_5 eb_36
noncomputable def d_L_1495 := gq_5 db67g_5 eb_38
noncomputable def d_L_1496 := gq_6 db67g_5 eb_0
noncomputable def d_L_1497 := gq_7 db67g_5 eb_77
noncomputable def d_L_1499 := gq_8 db67g_5 eb_11
noncomputable def d_L_1500 := gq_9 db67g_5 eb_36
noncomputable def d_L_1501 := gq_10 db67g_5 eb_38
noncomputable def d_L_1502 := gq_11 db67g_5 eb_0
noncomputable def d_L_1503 := gq_12 db67g_5 eb_77
noncomputable def d_L_1505 := gq_13 db67g_5 eb_55
noncomputable def d_L_1506 := gq_14 db67g_5 eb_36
noncomputable def d_L_1507 := gq_15 db67g_5 eb_38
noncomputable def d_L_1508 := gq_16 db67g_5 eb_1481
noncomputable def d_L_1511 := gq_17 db67g_5 eb_483
noncomputable def d_L_1512 := gq_18 db67g_5 eb_304
noncomputable def d_L_1513 := gq_19 db67g_5 eb_0
noncomputable def d_L_1514 := gq_20 db67g_5 eb_77
noncomputable def d_L_1516 := gq_21 db67g_5 eb_20
noncomputable def d_L_1517 := gq_22 db67g_5 eb_36
noncomputable def d_L_1518 := gq_23 db67g_5 eb_38
theorem db67g_6 : Pf_ code [(1519, [0x2a]), (1520, [0x15, 0x04]), (1522, [0x05]), (1523, [0x60]), (1524, [0x2e]), (1525, [0x2a]), (1526, [0x15, 0x04]), (1528, [0x06]), (1529, [0x60]), (1530, [0x2e]), (1531, [0xb6, 0x00, 0x99]), (1534, [0x57]), (1535, [0xa7, 0x03, 0x67]), (1538, [0x2b]), (1539, [0x2a]), (1540, [0x15, 0x04]), (1542, [0x04]), (1543, [0x60]), (1544, [0x2e]), (1545, [0xb6, 0x00, 0x9a]), (1548, [0x57]), (1549, [0x2c]), (1550, [0x2a]), (1551, [0x15, 0x04])] := pf_ok code _ 1519 (by decide +kernel)
noncomputable def d_L_1519 := gq_0 db67g_6 eb_0
noncomputable def d_L_1520 := gq_1 db67g_6 eb_77
noncomputable def d_L_1522 := gq_2 db67g_6 eb_11
noncomputable def d_L_1523 := gq_3 db67g_6 eb_36
noncomputable def d_L_1524 := gq_4 db67g_6 eb_38
noncomputable def d_L_1525 := gq_5 db67g_6 eb_0
noncomputable def d_L_1526 := gq_6 db67g_6 eb_77
noncomputable def d_L_1528 := gq_7 db67g_6 eb_55
noncomputable def d_L_1529 := gq_8 db67g_6 eb_36
noncomputable def d_L_1530 := gq_9 db67g_6 eb_38
noncomputable def d_L_1531 := gq_10 db67g_6 eb_1482
noncomputable def d_L_1534 := gq_11 db67g_6 eb_483
noncomputable def d_L_1535 := gq_12 db67g_6 eb_1483
noncomputable def d_L_1538 := gq_13 db67g_6 eb_24
noncomputable def d_L_1539 := gq_14 db67g_6 eb_0
noncomputable def d_L_1540 := gq_15 db67g_6 eb_77
noncomputable def d_L_1542 := gq_16 db67g_6 eb_20
noncomputable def d_L_1543 := gq_17 db67g_6 eb_36
noncomputable def d_L_1544 := gq_18 db67g_6 eb_38
noncomputable def d_L_1545 := gq_19 db67g_6 eb_529
noncomputable def d_L_1548 := gq_20 db67g_6 eb_483
noncomputable def d_L_1549 := gq_21 db67g_6 eb_304
noncomputable def d_L_1550 := gq_22 db67g_6 eb_0
noncomputable def d_L_1551 := gq_23 db67g_6 eb_77
theorem db67g_7 : Pf_ code [(1553, [0x04]), (1554, [0x60]), (1555, [0x2e]), (1556, [0xb6, 0x00, 0x9d]), (1559, [0x57]), (1560, [0xa7, 0x03, 0x4e]), (1563, [0x2b]), (1564, [0x2a]), (1565, [0x15, 0x04]), (1567, [0x04]), (1568, [0x60]), (1569, [0x2e]), (1570, [0x99, 0x00, 0x07]), (1573, [0x04]), (1574, [0xa7, 0x00, 0x04]), (1577, [0x03]), (1578, [0x2a]), (1579, [0x15, 0x04]), (1581, [0x05]), (1582, [0x60]), (1583, [0x2e]), (1584, [0xb6, 0x00, 0x9e]), (1587, [0x57]), (1588, [0x2c])] := pf_ok code _ 1553 (by decide +kernel)
noncomputable def d_L_1553 := gq_0 db67g_7 eb_20
noncomputable def d_L_1554 := gq_1 db67g_7 eb_36
noncomputable def d_L_1555 := gq_2 db67g_7 eb_38
noncomputable def d_L_1556 := gq_3 db67g_7 eb_546
noncomputable def d_L_1559 := gq_4 db67g_7 eb_483
noncomputable def d_L_1560 := gq_5 db67g_7 eb_1484
noncomputable def d_L_1563 := gq_6 db67g_7 eb_24
noncomputable def d_L_1564 := gq_7 db67g_7 eb_0
noncomputable def d_L_1565 := gq_8 db67g_7 eb_77
noncomputable def d_L_1567 := gq_9 db67g_7 eb_20
noncomputable def d_L_1568 := gq_10 db67g_7 eb_36
noncomputable def d_L_1569 := gq_11 db67g_7 eb_38
noncomputable def d_L_1570 := gq_12 db67g_7 eb_124
noncomputable def d_L_1573 := gq_13 db67g_7 eb_20
noncomputable def d_L_1574 := gq_14 db67g_7 eb_21
noncomputable def d_L_1577 := gq_15 db67g_7 eb_22
noncomputable def d_L_1578 := gq_16 db67g_7 eb_0
noncomputable def d_L_1579 := gq_17 db67g_7 eb_77
noncomputable def d_L_1581 := gq_18 db67g_7 eb_11
noncomputable def d_L_1582 := gq_19 db67g_7 eb_36
noncomputable def d_L_1583 := gq_20 db67g_7 eb_38
noncomputable def d_L_1584 := gq_21 db67g_7 eb_1485
noncomputable def d_L_1587 := gq_22 db67g_7 eb_483
noncomputable def d_L_1588 := gq_23 db67g_7 eb_304
theorem db67g_8 : Pf_ code [(1589, [0x2a]), (1590, [0x15, 0x04]), (1592, [0x04]), (1593, [0x60]), (1594, [0x2e]), (1595, [0x99, 0x00, 0x07]), (1598, [0x04]), (1599, [0xa7, 0x00, 0x04]), (1602, [0x03]), (1603, [0x2a]), (1604, [0x15, 0x04]), (1606, [0x05]), (1607, [0x60]), (1608, [0x2e]), (1609, [0xb6, 0x00, 0xa2]), (1612, [0x57]), (1613, [0xa7, 0x03, 0x19]), (1616, [0x2b]), (1617, [0x2a]), (1618, [0x15, 0x04]), (1620, [0x04]), (1621, [0x60]), (1622, [0x2e]), (1623, [0xb6, 0x00, 0xa3])] := pf_ok code _ 1589 (by decide +kernel)
noncomputable def d_L_1589 := gq_0 db67g_8 eb_0
noncomputable def d_L_1590 := gq_1 db67g_8 eb_77
noncomputable def d_L_1592 := gq_2 db67g_8 eb_20
noncomputable def d_L_1593 := gq_3 db67g_8 eb_36
noncomputable def d_L_1594 := gq_4 db67g_8 eb_38
noncomputable def d_L_1595 := gq_5 db67g_8 eb_124
noncomputable def d_L_1598 := gq_6 db67g_8 eb_20
noncomputable def d_L_1599 := gq_7 db67g_8 eb_21
noncomputable def d_L_1602 := gq_8 db67g_8 eb_22
noncomputable def d_L_1603 := gq_9 db67g_8 eb_0
noncomputable def d_L_1604 := gq_10 db67g_8 eb_77
noncomputable def d_L_1606 := gq_11 db67g_8 eb_11
noncomputable def d_L_1607 := gq_12 db67g_8 eb_36
noncomputable def d_L_1608 := gq_13 db67g_8 eb_38
noncomputable def d_L_1609 := gq_14 db67g_8 eb_1486
noncomputable def d_L_1612 := gq_15 db67g_8 eb_483
noncomputable def d_L_1613 := gq_16 db67g_8 eb_1487
noncomputable def d_L_1616 := gq_17 db67g_8 eb_24
noncomputable def d_L_1617 := gq_18 db67g_8 eb_0
noncomputable def d_L_1618 := gq_19 db67g_8 eb_77
noncomputable def d_L_1620 := gq_20 db67g_8 eb_20
noncomputable def d_L_1621 := gq_21 db67g_8 eb_36
noncomputable def d_L_1622 := gq_22 db67g_8 eb_38
noncomputable def d_L_1623 := gq_23 db67g_8 eb_1488
theorem db67g_9 : Pf_ code [(1626, [0x57]), (1627, [0x2c]), (1628, [0x2a]), (1629, [0x15, 0x04]), (1631, [0x04]), (1632, [0x60]), (1633, [0x2e]), (1634, [0xb6, 0x00, 0xa6]), (1637, [0x57]), (1638, [0xa7, 0x03, 0x00]), (1641, [0x2b]), (1642, [0xb6, 0x00, 0xa7]), (1645, [0x57]), (1646, [0x2c]), (1647, [0xb6, 0x00, 0xaa]), (1650, [0x57]), (1651, [0xa7, 0x02, 0xf3]), (1654, [0x2b]), (1655, [0x2a]), (1656, [0x15, 0x04]), (1658, [0x04]), (1659, [0x60]), (1660, [0x2e]), (1661, [0xb6, 0x00, 0xab])] := pf_ok code _ 1626 (by decide +kernel)
noncomputable def d_L_1626 := gq_0 db67g_9 eb_483
noncomputable def d_L_1627 := gq_1 db67g_9 eb_304
noncomputable def d_L_1628 := gq_2 db67g_9 eb_0
noncomputable def d_L_1629 := gq_3 db67g_9 eb_77
noncomputable def d_L_1631 := gq_4 db67g_9 eb_20
noncomputable def d_L_1632 := gq_5 db67g_9 eb_36
noncomputable def d_L_1633 := gq_6 db67g_9 eb_38
noncomputable def d_L_1634 := gq_7 db67g_9 eb_1489
noncomputable def d_L_1637 := gq_8 db67g_9 eb_483
noncomputable def d_L_1638 := gq_9 db67g_9 eb_1490
noncomputable def d_L_1641 := gq_10 db67g_9 eb_24
noncomputable def d_L_1642 := gq_11 db67g_9 eb_1491
noncomputable def d_L_1645 := gq_12 db67g_9 eb_483
noncomputable def d_L_1646 := gq_13 db67g_9 eb_304
noncomputable def d_L_1647 := gq_14 db67g_9 eb_1492
noncomputable def d_L_1650 := gq_15 db67g_9 eb_483
noncomputable def d_L_1651 := gq_16 db67g_9 eb_1493
noncomputable def d_L_1654 := gq_17 db67g_9 eb_24
noncomputable def d_L_1655 := gq_18 db67g_9 eb_0
noncomputable def d_L_1656 := gq_19 db67g_9 eb_77
noncomputable def d_L_1658 := gq_20 db67g_9 eb_20
noncomputable def d_L_1659 := gq_21 db67g_9 eb_36
noncomputable def d_L_1660 := gq_22 db67g_9 eb_38
noncomputable def d_L_1661 := gq_23 db67g_9 eb_1494
theorem db67g_10 : Pf_ code [(1664, [0x57]), (1665, [0x2c]), (1666, [0x2a]), (1667, [0x15, 0x04]), (1669, [0x04]), (1670, [0x60]), (1671, [0x2e]), (1672, [0xb6, 0x00, 0xae]), (1675, [0x57]), (1676, [0xa7, 0x02, 0xda]), (1679, [0x2b]), (1680, [0x2a]), (1681, [0x15, 0x04]), (1683, [0x04]), (1684, [0x60]), (1685, [0x2e]), (1686, [0xb6, 0x00, 0xaf]), (1689, [0x57]), (1690, [0x2c]), (1691, [0x2a]), (1692, [0x15, 0x04]), (1694, [0x04]), (1695, [0x60]), (1696, [0x2e])] := pf_ok code _ 1664 (by decide +kernel)
noncomputable def d_L_1664 := gq_0 db67g_10 eb_483
noncomputable def d_L_1665 := gq_1 db67g_10 eb_304
noncomputable def d_L_1666 := gq_2 db67g_10 eb_0
noncomputable def d_L_1667 := gq_3 db67g_10 eb_77
noncomputable def d_L_1669 := gq_4 db67g_10 eb_20
noncomputable def d_L_1670 := gq_5 db67g_10 eb_36
noncomputable def d_L_1671 := gq_6 db67g_10 eb_38
noncomputable def d_L_1672 := gq_7 db67g_10 eb_1495
noncomputable def d_L_1675 := gq_8 db67g_10 eb_483
noncomputable def d_L_1676 := gq_9 db67g_10 eb_1496
noncomputable def d_L_1679 := gq_10 db67g_10 eb_24
noncomputable def d_L_1680 := gq_11 db67g_10 eb_0
noncomputable def d_L_1681 := gq_12 db67g_10 eb_77
noncomputable def d_L_1683 := gq_13 db67g_10 eb_20
noncomputable def d_L_1684 := gq_14 db67g_10 eb_36
noncomputable def d_L_1685 := gq_15 db67g_10 eb_38
noncomputable def d_L_1686 := gq_16 db67g_10 eb_1497
noncomputable def d_L_1689 := gq_17 db67g_10 eb_483
noncomputable def d_L_1690 := gq_18 db67g_10 eb_304
noncomputable def d_L_1691 := gq_19 db67g_10 eb_0
noncomputable def d_L_1692 := gq_20 db67g_10 eb_77
noncomputable def d_L_1694 := gq_21 db67g_10 eb_20
noncomputable def d_L_1695 := gq_22 db67g_10 eb_36
noncomputable def d_L_1696 := gq_23 db67g_10 eb_38
theorem db67g_11 : Pf_ code [(1697, [0xb6, 0x00, 0xb2]), (1700, [0x57]), (1701, [0xa7, 0x02, 0xc1]), (1704, [0x2b]), (1705, [0x2a]), (1706, [0x15, 0x04]), (1708, [0x04]), (1709, [0x60]), (1710, [0x2e]), (1711, [0xb6, 0x00, 0xb3]), (1714, [0x57]), (1715, [0x2c]), (1716, [0x2a]), (1717, [0x15, 0x04]), (1719, [0x04]), (1720, [0x60]), (1721, [0x2e]), (1722, [0xb6, 0x00, 0xb6]), (1725, [0x57]), (1726, [0xa7, 0x02, 0xa8]), (1729, [0x2b]), (1730, [0x2a]), (1731, [0x15, 0x04]), (1733, [0x04])] := pf_ok code _ 1697 (by decide +kernel)
noncomputable def d_L_1697 := gq_0 db67g_11 eb_1498
noncomputable def d_L_1700 := gq_1 db67g_11 eb_483
noncomputable def d_L_1701 := gq_2 db67g_11 eb_1499
noncomputable def d_L_1704 := gq_3 db67g_11 eb_24
noncomputable def d_L_1705 := gq_4 db67g_11 eb_0
noncomputable def d_L_1706 := gq_5 db67g_11 eb_77
noncomputable def d_L_1708 := gq_6 db67g_11 eb_20
noncomputable def d_L_1709 := gq_7 db67g_11 eb_36
noncomputable def d_L_1710 := gq_8 db67g_11 eb_38
noncomputable def d_L_1711 := gq_9 db67g_11 eb_661
noncomputable def d_L_1714 := gq_10 db67g_11 eb_483
noncomputable def d_L_1715 := gq_11 db67g_11 eb_304
noncomputable def d_L_1716 := gq_12 db67g_11 eb_0
noncomputable def d_L_1717 := gq_13 db67g_11 eb_77
noncomputable def d_L_1719 := gq_14 db67g_11 eb_20
noncomputable def d_L_1720 := gq_15 db67g_11 eb_36
noncomputable def d_L_1721 := gq_16 db67g_11 eb_38
noncomputable def d_L_1722 := gq_17 db67g_11 eb_1500
noncomputable def d_L_1725 := gq_18 db67g_11 eb_483
noncomputable def d_L_1726 := gq_19 db67g_11 eb_1501
noncomputable def d_L_1729 := gq_20 db67g_11 eb_24
noncomputable def d_L_1730 := gq_21 db67g_11 eb_0
noncomputable def d_L_1731 := gq_22 db67g_11 eb_77
noncomputable def d_L_1733 := gq_23 db67g_11 eb_20
theorem db67g_12 : Pf_ code [(1734, [0x60]), (1735, [0x2e]), (1736, [0x2a]), (1737, [0x15, 0x04]), (1739, [0x05]), (1740, [0x60]), (1741, [0x2e]), (1742, [0x2a]), (1743, [0x15, 0x04]), (1745, [0x06]), (1746, [0x60]), (1747, [0x2e]), (1748, [0xb6, 0x00, 0xb7]), (1751, [0x57]), (1752, [0x2c]), (1753, [0x2a]), (1754, [0x15, 0x04]), (1756, [0x04]), (1757, [0x60]), (1758, [0x2e]), (1759, [0x2a]), (1760, [0x15, 0x04]), (1762, [0x05]), (1763, [0x60])] := pf_ok code _ 1734 (by decide +kernel)
noncomputable def d_L_1734 := gq_0 db67g_12 eb_36
noncomputable def d_L_1735 := gq_1 db67g_12 eb_38
noncomputable def d_L_1736 := gq_2 db67g_12 eb_0
noncomputable def d_L_1737 := gq_3 db67g_12 eb_77
noncomputable def d_L_1739 := gq_4 db67g_12 eb_11
noncomputable def d_L_1740 := gq_5 db67g_12 eb_36
noncomputable def d_L_1741 := gq_6 db67g_12 eb_38
noncomputable def d_L_1742 := gq_7 db67g_12 eb_0
noncomputable def d_L_1743 := gq_8 db67g_12 eb_77
noncomputable def d_L_1745 := gq_9 db67g_12 eb_55
noncomputable def d_L_1746 := gq_10 db67g_12 eb_36
noncomputable def d_L_1747 := gq_11 db67g_12 eb_38
noncomputable def d_L_1748 := gq_12 db67g_12 eb_1502
noncomputable def d_L_1751 := gq_13 db67g_12 eb_483
noncomputable def d_L_1752 := gq_14 db67g_12 eb_304
noncomputable def d_L_1753 := gq_15 db67g_12 eb_0
noncomputable def d_L_1754 := gq_16 db67g_12 eb_77
noncomputable def d_L_1756 := gq_17 db67g_12 eb_20
noncomputable def d_L_1757 := gq_18 db67g_12 eb_36
noncomputable def d_L_1758 := gq_19 db67g_12 eb_38
noncomputable def d_L_1759 := gq_20 db67g_12 eb_0
noncomputable def d_L_1760 := gq_21 db67g_12 eb_77
noncomputable def d_L_1762 := gq_22 db67g_12 eb_11
noncomputable def d_L_1763 := gq_23 db67g_12 eb_36
theorem db67g_13 : Pf_ code [(1764, [0x2e]), (1765, [0x2a]), (1766, [0x15, 0x04]), (1768, [0x06]), (1769, [0x60]), (1770, [0x2e]), (1771, [0xb6, 0x00, 0xba]), (1774, [0x57]), (1775, [0xa7, 0x02, 0x77]), (1778, [0x2b]), (1779, [0x2a]), (1780, [0x15, 0x04]), (1782, [0x04]), (1783, [0x60]), (1784, [0x2e]), (1785, [0x2a]), (1786, [0x15, 0x04]), (1788, [0x05]), (1789, [0x60]), (1790, [0x2e]), (1791, [0xb6, 0x00, 0xbb]), (1794, [0x57]), (1795, [0x2c]), (1796, [0x2a])] := pf_ok code _ 1764 (by decide +kernel)
noncomputable def d_L_1764 := gq_0 db67g_13 eb_38
noncomputable def d_L_1765 := gq_1 db67g_13 eb_0
noncomputable def d_L_1766 := gq_2 db67g_13 eb_77
noncomputable def d_L_1768 := gq_3 db67g_13 eb_55
noncomputable def d_L_1769 := gq_4 db67g_13 eb_36
noncomputable def d_L_1770 := gq_5 db67g_13 eb_38
noncomputable def d_L_1771 := gq_6 db67g_13 eb_663
noncomputable def d_L_1774 := gq_7 db67g_13 eb_483
noncomputable def d_L_1775 := gq_8 db67g_13 eb_1503
noncomputable def d_L_1778 := gq_9 db67g_13 eb_24
noncomputable def d_L_1779 := gq_10 db67g_13 eb_0
noncomputable def d_L_1780 := gq_11 db67g_13 eb_77
noncomputable def d_L_1782 := gq_12 db67g_13 eb_20
noncomputable def d_L_1783 := gq_13 db67g_13 eb_36
noncomputable def d_L_1784 := gq_14 db67g_13 eb_38
noncomputable def d_L_1785 := gq_15 db67g_13 eb_0
noncomputable def d_L_1786 := gq_16 db67g_13 eb_77
noncomputable def d_L_1788 := gq_17 db67g_13 eb_11
noncomputable def d_L_1789 := gq_18 db67g_13 eb_36
noncomputable def d_L_1790 := gq_19 db67g_13 eb_38
noncomputable def d_L_1791 := gq_20 db67g_13 eb_1504
noncomputable def d_L_1794 := gq_21 db67g_13 eb_483
noncomputable def d_L_1795 := gq_22 db67g_13 eb_304
noncomputable def d_L_1796 := gq_23 db67g_13 eb_0
theorem db67g_14 : Pf_ code [(1797, [0x15, 0x04]), (1799, [0x04]), (1800, [0x60]), (1801, [0x2e]), (1802, [0x2a]), (1803, [0x15, 0x04]), (1805, [0x05]), (1806, [0x60]), (1807, [0x2e]), (1808, [0xb6, 0x00, 0xbe]), (1811, [0x57]), (1812, [0xa7, 0x02, 0x52]), (1815, [0x2b]), (1816, [0x2a]), (1817, [0x15, 0x04]), (1819, [0x04]), (1820, [0x60]), (1821, [0x2e]), (1822, [0xb6, 0x00, 0xbf]), (1825, [0x57]), (1826, [0x2c]), (1827, [0x2a]), (1828, [0x15, 0x04]), (1830, [0x04])] := pf_ok code _ 1797 (by decide +kernel)
noncomputable def d_L_1797 := gq_0 db67g_14 eb_77
noncomputable def d_L_1799 := gq_1 db67g_14 eb_20
noncomputable def d_L_1800 := gq_2 db67g_14 eb_36
noncomputable def d_L_1801 := gq_3 db67g_14 eb_38
noncomputable def d_L_1802 := gq_4 db67g_14 eb_0
noncomputable def d_L_1803 := gq_5 db67g_14 eb_77
noncomputable def d_L_1805 := gq_6 db67g_14 eb_11
noncomputable def d_L_1806 := gq_7 db67g_14 eb_36
noncomputable def d_L_1807 := gq_8 db67g_14 eb_38
noncomputable def d_L_1808 := gq_9 db67g_14 eb_1505
noncomputable def d_L_1811 := gq_10 db67g_14 eb_483
noncomputable def d_L_1812 := gq_11 db67g_14 eb_1506
noncomputable def d_L_1815 := gq_12 db67g_14 eb_24
noncomputable def d_L_1816 := gq_13 db67g_14 eb_0
noncomputable def d_L_1817 := gq_14 db67g_14 eb_77
noncomputable def d_L_1819 := gq_15 db67g_14 eb_20
noncomputable def d_L_1820 := gq_16 db67g_14 eb_36
noncomputable def d_L_1821 := gq_17 db67g_14 eb_38
noncomputable def d_L_1822 := gq_18 db67g_14 eb_1507
noncomputable def d_L_1825 := gq_19 db67g_14 eb_483
noncomputable def d_L_1826 := gq_20 db67g_14 eb_304
noncomputable def d_L_1827 := gq_21 db67g_14 eb_0
noncomputable def d_L_1828 := gq_22 db67g_14 eb_77
noncomputable def d_L_1830 := gq_23 db67g_14 eb_20
theorem db67g_15 : Pf_ code [(1831, [0x60]), (1832, [0x2e]), (1833, [0xb6, 0x00, 0xc2]), (1836, [0x57]), (1837, [0xa7, 0x02, 0x39]), (1840, [0x2b]), (1841, [0x2a]), (1842, [0x15, 0x04]), (1844, [0x04]), (1845, [0x60]), (1846, [0x2e]), (1847, [0x2a]), (1848, [0x15, 0x04]), (1850, [0x05]), (1851, [0x60]), (1852, [0x2e]), (1853, [0xb6, 0x00, 0xc3]), (1856, [0x57]), (1857, [0x2c]), (1858, [0x2a]), (1859, [0x15, 0x04]), (1861, [0x04]), (1862, [0x60]), (1863, [0x2e])] := pf_ok code _ 1831 (by decide +kernel)
noncomputable def d_L_1831 := gq_0 db67g_15 eb_36
noncomputable def d_L_1832 := gq_1 db67g_15 eb_38
noncomputable def d_L_1833 := gq_2 db67g_15 eb_1508
noncomputable def d_L_1836 := gq_3 db67g_15 eb_483
noncomputable def d_L_1837 := gq_4 db67g_15 eb_1509
noncomputable def d_L_1840 := gq_5 db67g_15 eb_24
noncomputable def d_L_1841 := gq_6 db67g_15 eb_0
noncomputable def d_L_1842 := gq_7 db67g_15 eb_77
noncomputable def d_L_1844 := gq_8 db67g_15 eb_20
noncomputable def d_L_1845 := gq_9 db67g_15 eb_36
noncomputable def d_L_1846 := gq_10 db67g_15 eb_38
noncomputable def d_L_1847 := gq_11 db67g_15 eb_0
noncomputable def d_L_1848 := gq_12 db67g_15 eb_77
noncomputable def d_L_1850 := gq_13 db67g_15 eb_11
noncomputable def d_L_1851 := gq_14 db67g_15 eb_36
noncomputable def d_L_1852 := gq_15 db67g_15 eb_38
noncomputable def d_L_1853 := gq_16 db67g_15 eb_1510
noncomputable def d_L_1856 := gq_17 db67g_15 eb_483
noncomputable def d_L_1857 := gq_18 db67g_15 eb_304
noncomputable def d_L_1858 := gq_19 db67g_15 eb_0
noncomputable def d_L_1859 := gq_20 db67g_15 eb_77
noncomputable def d_L_1861 := gq_21 db67g_15 eb_20
noncomputable def d_L_1862 := gq_22 db67g_15 eb_36
noncomputable def d_L_1863 := gq_23 db67g_15 eb_38
theorem db67g_16 : Pf_ code [(1864, [0x2a]), (1865, [0x15, 0x04]), (1867, [0x05]), (1868, [0x60]), (1869, [0x2e]), (1870, [0xb6, 0x00, 0xc6]), (1873, [0x57])] := pf_ok code _ 1864 (by decide +kernel)
noncomputable def d_L_1864 := gq_0 db67g_16 eb_0
noncomputable def d_L_1865 := gq_1 db67g_16 eb_77
noncomputable def d_L_1867 := gq_2 db67g_16 eb_11
noncomputable def d_L_1868 := gq_3 db67g_16 eb_36
noncomputable def d_L_1869 := gq_4 db67g_16 eb_38
noncomputable def d_L_1870 := gq_5 db67g_16 eb_1511
noncomputable def d_L_1873 := gq_6 db67g_16 eb_483
end
section
theorem db67h_0 : Pf_ code [(1874, [0xa7, 0x02, 0x14]), (1877, [0x2b]), (1878, [0x2a]), (1879, [0x15, 0x04]), (1881, [0x04]), (1882, [0x60]), (1883, [0x2e]), (1884, [0x2a]), (1885, [0x15, 0x04]), (1887, [0x05]), (1888, [0x60]), (1889, [0x2e]), (1890, [0x2a]), (1891, [0x15, 0x04]), (1893, [0x06]), (1894, [0x60]), (1895, [0x2e]), (1896, [0xb6, 0x00, 0xc7]), (1899, [0x57]), (1900, [0x2c]), (1901, [0x2a]), (1902, [0x15, 0x04]), (1904, [0x04]), (1905, [0x60])] := pf_ok code _ 1874 (by decide +kernel)
noncomputable def d_L_1874 := gq_0 db67h_0 eb_1512
noncomputable def d_L_1877 := gq_1 db67h_0 eb_24
noncomputable def d_L_1878 := gq_2 db67h_0 eb_0
noncomputable def d_L_1879 := gq_3 db67h_0 eb_77
noncomputable def d_L_1881 := gq_4 db67h_0 eb_20
noncomputable def d_L_1882 := gq_5 db67h_0 eb_36
noncomputable def d_L_1883 := gq_6 db67h_0 eb_38
noncomputable def d_L_1884 := gq_7 db67h_0 eb_0
noncomputable def d_L_1885 := gq_8 db67h_0 eb_77
noncomputable def d_L_1887 := gq_9 db67h_0 eb_11
noncomputable def d_L_1888 := gq_10 db67h_0 eb_36
noncomputable def d_L_1889 := gq_11 db67h_0 eb_38
noncomputable def d_L_1890 := gq_12 db67h_0 eb_0
noncomputable def d_L_1891 := gq_13 db67h_0 eb_77
noncomputable def d_L_1893 := gq_14 db67h_0 eb_55
noncomputable def d_L_1894 := gq_15 db67h_0 eb_36
noncomputable def d_L_1895 := gq_16 db67h_0 eb_38
noncomputable def d_L_1896 := gq_17 db67h_0 eb_1513
noncomputable def d_L_1899 := gq_18 db67h_0 eb_483
noncomputable def d_L_1900 := gq_19 db67h_0 eb_304
noncomputable def d_L_1901 := gq_20 db67h_0 eb_0
noncomputable def d_L_1902 := gq_21 db67h_0 eb_77
noncomputable def d_L_1904 := gq_22 db67h_0 eb_20
noncomputable def d_L_1905 := gq_23 db67h_0 eb_36
theorem db67h_1 : Pf_ code [(1906, [0x2e]), (1907, [0x2a]), (1908, [0x15, 0x04]), (1910, [0x05]), (1911, [0x60]), (1912, [0x2e]), (1913, [0x2a]), (1914, [0x15, 0x04]), (1916, [0x06]), (1917, [0x60]), (1918, [0x2e]), (1919, [0xb6, 0x00, 0xca]), (1922, [0x57]), (1923, [0xa7, 0x01, 0xe3]), (1926, [0x2b]), (1927, [0x2a]), (1928, [0x15, 0x04]), (1930, [0x04]), (1931, [0x60]), (1932, [0x2e]), (1933, [0xb6, 0x00, 0xcb]), (1936, [0x57]), (1937, [0x2c]), (1938, [0x2a])] := pf_ok code _ 1906 (by decide +kernel)
noncomputable def d_L_1906 := gq_0 db67h_1 eb_38
noncomputable def d_L_1907 := gq_1 db67h_1 eb_0
noncomputable def d_L_1908 := gq_2 db67h_1 eb_77
noncomputable def d_L_1910 := gq_3 db67h_1 eb_11
noncomputable def d_L_1911 := gq_4 db67h_1 eb_36
noncomputable def d_L_1912 := gq_5 db67h_1 eb_38
noncomputable def d_L_1913 := gq_6 db67h_1 eb_0
noncomputable def d_L_1914 := gq_7 db67h_1 eb_77
noncomputable def d_L_1916 := gq_8 db67h_1 eb_55
noncomputable def d_L_1917 := gq_9 db67h_1 eb_36
noncomputable def d_L_1918 := gq_10 db67h_1 eb_38
noncomputable def d_L_1919 := gq_11 db67h_1 eb_1514
noncomputable def d_L_1922 := gq_12 db67h_1 eb_483
noncomputable def d_L_1923 := gq_13 db67h_1 eb_1515
noncomputable def d_L_1926 := gq_14 db67h_1 eb_24
noncomputable def d_L_1927 := gq_15 db67h_1 eb_0
noncomputable def d_L_1928 := gq_16 db67h_1 eb_77
noncomputable def d_L_1930 := gq_17 db67h_1 eb_20
noncomputable def d_L_1931 := gq_18 db67h_1 eb_36
noncomputable def d_L_1932 := gq_19 db67h_1 eb_38
noncomputable def d_L_1933 := gq_20 db67h_1 eb_1516
noncomputable def d_L_1936 := gq_21 db67h_1 eb_483
noncomputable def d_L_1937 := gq_22 db67h_1 eb_304
noncomputable def d_L_1938 := gq_23 db67h_1 eb_0
theorem db67h_2 : Pf_ code [(1939, [0x15, 0x04]), (1941, [0x04]), (1942, [0x60]), (1943, [0x2e]), (1944, [0xb6, 0x00, 0xce]), (1947, [0x57]), (1948, [0xa7, 0x01, 0xca]), (1951, [0x2b]), (1952, [0x2a]), (1953, [0x15, 0x04]), (1955, [0x04]), (1956, [0x60]), (1957, [0x2e]), (1958, [0xb6, 0x00, 0xcf]), (1961, [0x57]), (1962, [0x2c]), (1963, [0x2a]), (1964, [0x15, 0x04]), (1966, [0x04]), (1967, [0x60]), (1968, [0x2e]), (1969, [0xb6, 0x00, 0xd2]), (1972, [0x57]), (1973, [0xa7, 0x01, 0xb1])] := pf_ok code _ 1939 (by decide +kernel)
noncomputable def d_L_1939 := gq_0 db67h_2 eb_77
noncomputable def d_L_1941 := gq_1 db67h_2 eb_20
noncomputable def d_L_1942 := gq_2 db67h_2 eb_36
noncomputable def d_L_1943 := gq_3 db67h_2 eb_38
noncomputable def d_L_1944 := gq_4 db67h_2 eb_1517
noncomputable def d_L_1947 := gq_5 db67h_2 eb_483
noncomputable def d_L_1948 := gq_6 db67h_2 eb_1518
noncomputable def d_L_1951 := gq_7 db67h_2 eb_24
noncomputable def d_L_1952 := gq_8 db67h_2 eb_0
noncomputable def d_L_1953 := gq_9 db67h_2 eb_77
noncomputable def d_L_1955 := gq_10 db67h_2 eb_20
noncomputable def d_L_1956 := gq_11 db67h_2 eb_36
noncomputable def d_L_1957 := gq_12 db67h_2 eb_38
noncomputable def d_L_1958 := gq_13 db67h_2 eb_676
noncomputable def d_L_1961 := gq_14 db67h_2 eb_483
noncomputable def d_L_1962 := gq_15 db67h_2 eb_304
noncomputable def d_L_1963 := gq_16 db67h_2 eb_0
noncomputable def d_L_1964 := gq_17 db67h_2 eb_77
noncomputable def d_L_1966 := gq_18 db67h_2 eb_20
noncomputable def d_L_1967 := gq_19 db67h_2 eb_36
noncomputable def d_L_1968 := gq_20 db67h_2 eb_38
noncomputable def d_L_1969 := gq_21 db67h_2 eb_1519
noncomputable def d_L_1972 := gq_22 db67h_2 eb_483
noncomputable def d_L_1973 := gq_23 db67h_2 eb_1520
theorem db67h_3 : Pf_ code [(1976, [0x2b]), (1977, [0xb6, 0x00, 0xd3]), (1980, [0x2c]), (1981, [0xb6, 0x00, 0xd6]), (1984, [0xa7, 0x01, 0xa6]), (1987, [0x2b]), (1988, [0x2a]), (1989, [0x15, 0x04]), (1991, [0x04]), (1992, [0x60]), (1993, [0x2e]), (1994, [0xb6, 0x00, 0xd7]), (1997, [0x57]), (1998, [0x2c]), (1999, [0x2a]), (2000, [0x15, 0x04]), (2002, [0x04]), (2003, [0x60]), (2004, [0x2e]), (2005, [0xb6, 0x00, 0xda]), (2008, [0x57]), (2009, [0xa7, 0x01, 0x8d]), (2012, [0x2b]), (2013, [0x2a])] := pf_ok code _ 1976 (by decide +kernel)
noncomputable def d_L_1976 := gq_0 db67h_3 eb_24
noncomputable def d_L_1977 := gq_1 db67h_3 eb_1521
noncomputable def d_L_1980 := gq_2 db67h_3 eb_304
noncomputable def d_L_1981 := gq_3 db67h_3 eb_1522
noncomputable def d_L_1984 := gq_4 db67h_3 eb_1523
noncomputable def d_L_1987 := gq_5 db67h_3 eb_24
noncomputable def d_L_1988 := gq_6 db67h_3 eb_0
noncomputable def d_L_1989 := gq_7 db67h_3 eb_77
noncomputable def d_L_1991 := gq_8 db67h_3 eb_20
noncomputable def d_L_1992 := gq_9 db67h_3 eb_36
noncomputable def d_L_1993 := gq_10 db67h_3 eb_38
noncomputable def d_L_1994 := gq_11 db67h_3 eb_1524
noncomputable def d_L_1997 := gq_12 db67h_3 eb_483
noncomputable def d_L_1998 := gq_13 db67h_3 eb_304
noncomputable def d_L_1999 := gq_14 db67h_3 eb_0
noncomputable def d_L_2000 := gq_15 db67h_3 eb_77
noncomputable def d_L_2002 := gq_16 db67h_3 eb_20
noncomputable def d_L_2003 := gq_17 db67h_3 eb_36
noncomputable def d_L_2004 := gq_18 db67h_3 eb_38
noncomputable def d_L_2005 := gq_19 db67h_3 eb_1525
noncomputable def d_L_2008 := gq_20 db67h_3 eb_483
noncomputable def d_L_2009 := gq_21 db67h_3 eb_1526
noncomputable def d_L_2012 := gq_22 db67h_3 eb_24
noncomputable def d_L_2013 := gq_23 db67h_3 eb_0
theorem db67h_4 : Pf_ code [(2014, [0x15, 0x04]), (2016, [0x04]), (2017, [0x60]), (2018, [0x2e]), (2019, [0x2a]), (2020, [0x15, 0x04]), (2022, [0x05]), (2023, [0x60]), (2024, [0x2e]), (2025, [0x2a]), (2026, [0x15, 0x04]), (2028, [0x06]), (2029, [0x60]), (2030, [0x2e]), (2031, [0xb6, 0x00, 0xdb]), (2034, [0x57]), (2035, [0x2c]), (2036, [0x2a]), (2037, [0x15, 0x04]), (2039, [0x04]), (2040, [0x60]), (2041, [0x2e]), (2042, [0x2a]), (2043, [0x15, 0x04])] := pf_ok code _ 2014 (by decide +kernel)
noncomputable def d_L_2014 := gq_0 db67h_4 eb_77
noncomputable def d_L_2016 := gq_1 db67h_4 eb_20
noncomputable def d_L_2017 := gq_2 db67h_4 eb_36
noncomputable def d_L_2018 := gq_3 db67h_4 eb_38
noncomputable def d_L_2019 := gq_4 db67h_4 eb_0
noncomputable def d_L_2020 := gq_5 db67h_4 eb_77
noncomputable def d_L_2022 := gq_6 db67h_4 eb_11
noncomputable def d_L_2023 := gq_7 db67h_4 eb_36
noncomputable def d_L_2024 := gq_8 db67h_4 eb_38
noncomputable def d_L_2025 := gq_9 db67h_4 eb_0
noncomputable def d_L_2026 := gq_10 db67h_4 eb_77
noncomputable def d_L_2028 := gq_11 db67h_4 eb_55
noncomputable def d_L_2029 := gq_12 db67h_4 eb_36
noncomputable def d_L_2030 := gq_13 db67h_4 eb_38
noncomputable def d_L_2031 := gq_14 db67h_4 eb_1527
noncomputable def d_L_2034 := gq_15 db67h_4 eb_483
noncomputable def d_L_2035 := gq_16 db67h_4 eb_304
noncomputable def d_L_2036 := gq_17 db67h_4 eb_0
noncomputable def d_L_2037 := gq_18 db67h_4 eb_77
noncomputable def d_L_2039 := gq_19 db67h_4 eb_20
noncomputable def d_L_2040 := gq_20 db67h_4 eb_36
noncomputable def d_L_2041 := gq_21 db67h_4 eb_38
noncomputable def d_L_2042 := gq_22 db67h_4 eb_0
noncomputable def d_L_2043 := gq_23 db67h_4 eb_77
theorem db67h_5 : Pf_ code [(2045, [0x05]), (2046, [0x60]), (2047, [0x2e]), (2048, [0x2a]), (2049, [0x15, 0x04]), (2051, [0x06]), (2052, [0x60]), (2053, [0x2e]), (2054, [0xb6, 0x00, 0xde]), (2057, [0x57]), (2058, [0xa7, 0x01, 0x5c]), (2061, [0x2b]), (2062, [0x2a]), (2063, [0x15, 0x04]), (2065, [0x04]), (2066, [0x60]), (2067, [0x2e]), (2068, [0x2a]), (2069, [0x15, 0x04]), (2071, [0x05]), (2072, [0x60]), (2073, [0x2e]), (2074, [0x2a]), (2075, [0x15, 0x04])] := pf_ok code _ 2045 (by decide +kernel)
noncomputable def d_L_2045 := gq_0 db67h_5 eb_11
noncomputable def d_L_2046 := gq_1 db67h_5 eb_36
noncomputable def d_L_2047 := gq_2 db67h_5 eb_38
noncomputable def d_L_2048 := gq_3 db67h_5 eb_0
noncomputable def d_L_2049 := gq_4 db67h_5 eb_77
noncomputable def d_L_2051 := gq_5 db67h_5 eb_55
noncomputable def d_L_2052 := gq_6 db67h_5 eb_36
noncomputable def d_L_2053 := gq_7 db67h_5 eb_38
noncomputable def d_L_2054 := gq_8 db67h_5 eb_681
noncomputable def d_L_2057 := gq_9 db67h_5 eb_483
noncomputable def d_L_2058 := gq_10 db67h_5 eb_1528
noncomputable def d_L_2061 := gq_11 db67h_5 eb_24
noncomputable def d_L_2062 := gq_12 db67h_5 eb_0
noncomputable def d_L_2063 := gq_13 db67h_5 eb_77
noncomputable def d_L_2065 := gq_14 db67h_5 eb_20
noncomputable def d_L_2066 := gq_15 db67h_5 eb_36
noncomputable def d_L_2067 := gq_16 db67h_5 eb_38
noncomputable def d_L_2068 := gq_17 db67h_5 eb_0
noncomputable def d_L_2069 := gq_18 db67h_5 eb_77
noncomputable def d_L_2071 := gq_19 db67h_5 eb_11
noncomputable def d_L_2072 := gq_20 db67h_5 eb_36
noncomputable def d_L_2073 := gq_21 db67h_5 eb_38
noncomputable def d_L_2074 := gq_22 db67h_5 eb_0
noncomputable def d_L_2075 := gq_23 db67h_5 eb_77
theorem db67h_6 : Pf_ code [(2077, [0x06]), (2078, [0x60]), (2079, [0x2e]), (2080, [0xb6, 0x00, 0xdf]), (2083, [0x57]), (2084, [0x2c]), (2085, [0x2a]), (2086, [0x15, 0x04]), (2088, [0x04]), (2089, [0x60]), (2090, [0x2e]), (2091, [0x2a]), (2092, [0x15, 0x04]), (2094, [0x05]), (2095, [0x60]), (2096, [0x2e]), (2097, [0x2a]), (2098, [0x15, 0x04]), (2100, [0x06]), (2101, [0x60]), (2102, [0x2e]), (2103, [0xb6, 0x00, 0xe2]), (2106, [0x57]), (2107, [0xa7, 0x01, 0x2b])] := pf_ok code _ 2077 (by decide +kernel)
noncomputable def d_L_2077 := gq_0 db67h_6 eb_55
noncomputable def d_L_2078 := gq_1 db67h_6 eb_36
noncomputable def d_L_2079 := gq_2 db67h_6 eb_38
noncomputable def d_L_2080 := gq_3 db67h_6 eb_1529
noncomputable def d_L_2083 := gq_4 db67h_6 eb_483
noncomputable def d_L_2084 := gq_5 db67h_6 eb_304
noncomputable def d_L_2085 := gq_6 db67h_6 eb_0
noncomputable def d_L_2086 := gq_7 db67h_6 eb_77
noncomputable def d_L_2088 := gq_8 db67h_6 eb_20
noncomputable def d_L_2089 := gq_9 db67h_6 eb_36
noncomputable def d_L_2090 := gq_10 db67h_6 eb_38
noncomputable def d_L_2091 := gq_11 db67h_6 eb_0
noncomputable def d_L_2092 := gq_12 db67h_6 eb_77
noncomputable def d_L_2094 := gq_13 db67h_6 eb_11
noncomputable def d_L_2095 := gq_14 db67h_6 eb_36
noncomputable def d_L_2096 := gq_15 db67h_6 eb_38
noncomputable def d_L_2097 := gq_16 db67h_6 eb_0
noncomputable def d_L_2098 := gq_17 db67h_6 eb_77
noncomputable def d_L_2100 := gq_18 db67h_6 eb_55
noncomputable def d_L_2101 := gq_19 db67h_6 eb_36
noncomputable def d_L_2102 := gq_20 db67h_6 eb_38
noncomputable def d_L_2103 := gq_21 db67h_6 eb_1530
noncomputable def d_L_2106 := gq_22 db67h_6 eb_483
noncomputable def d_L_2107 := gq_23 db67h_6 eb_1531
theorem db67h_7 : Pf_ code [(2110, [0x2b]), (2111, [0x2a]), (2112, [0x15, 0x04]), (2114, [0x04]), (2115, [0x60]), (2116, [0x2e]), (2117, [0x2a]), (2118, [0x15, 0x04]), (2120, [0x05]), (2121, [0x60]), (2122, [0x2e]), (2123, [0x2a]), (2124, [0x15, 0x04]), (2126, [0x06]), (2127, [0x60]), (2128, [0x2e]), (2129, [0xb6, 0x00, 0xe3]), (2132, [0x57]), (2133, [0x2c]), (2134, [0x2a]), (2135, [0x15, 0x04]), (2137, [0x04]), (2138, [0x60]), (2139, [0x2e])] := pf_ok code _ 2110 (by decide +kernel)
noncomputable def d_L_2110 := gq_0 db67h_7 eb_24
noncomputable def d_L_2111 := gq_1 db67h_7 eb_0
noncomputable def d_L_2112 := gq_2 db67h_7 eb_77
noncomputable def d_L_2114 := gq_3 db67h_7 eb_20
noncomputable def d_L_2115 := gq_4 db67h_7 eb_36
noncomputable def d_L_2116 := gq_5 db67h_7 eb_38
noncomputable def d_L_2117 := gq_6 db67h_7 eb_0
noncomputable def d_L_2118 := gq_7 db67h_7 eb_77
noncomputable def d_L_2120 := gq_8 db67h_7 eb_11
noncomputable def d_L_2121 := gq_9 db67h_7 eb_36
noncomputable def d_L_2122 := gq_10 db67h_7 eb_38
noncomputable def d_L_2123 := gq_11 db67h_7 eb_0
noncomputable def d_L_2124 := gq_12 db67h_7 eb_77
noncomputable def d_L_2126 := gq_13 db67h_7 eb_55
noncomputable def d_L_2127 := gq_14 db67h_7 eb_36
noncomputable def d_L_2128 := gq_15 db67h_7 eb_38
noncomputable def d_L_2129 := gq_16 db67h_7 eb_1532
noncomputable def d_L_2132 := gq_17 db67h_7 eb_483
noncomputable def d_L_2133 := gq_18 db67h_7 eb_304
noncomputable def d_L_2134 := gq_19 db67h_7 eb_0
noncomputable def d_L_2135 := gq_20 db67h_7 eb_77
noncomputable def d_L_2137 := gq_21 db67h_7 eb_20
noncomputable def d_L_2138 := gq_22 db67h_7 eb_36
noncomputable def d_L_2139 := gq_23 db67h_7 eb_38
theorem db67h_8 : Pf_ code [(2140, [0x2a]), (2141, [0x15, 0x04]), (2143, [0x05]), (2144, [0x60]), (2145, [0x2e]), (2146, [0x2a]), (2147, [0x15, 0x04]), (2149, [0x06]), (2150, [0x60]), (2151, [0x2e]), (2152, [0xb6, 0x00, 0xe6]), (2155, [0x57]), (2156, [0xa7, 0x00, 0xfa]), (2159, [0x2b]), (2160, [0xb6, 0x00, 0xe7]), (2163, [0x57]), (2164, [0x2c]), (2165, [0xb6, 0x00, 0xea]), (2168, [0x57]), (2169, [0xa7, 0x00, 0xed]), (2172, [0x2b]), (2173, [0x2a]), (2174, [0x15, 0x04]), (2176, [0x04])] := pf_ok code _ 2140 (by decide +kernel)
noncomputable def d_L_2140 := gq_0 db67h_8 eb_0
noncomputable def d_L_2141 := gq_1 db67h_8 eb_77
noncomputable def d_L_2143 := gq_2 db67h_8 eb_11
noncomputable def d_L_2144 := gq_3 db67h_8 eb_36
noncomputable def d_L_2145 := gq_4 db67h_8 eb_38
noncomputable def d_L_2146 := gq_5 db67h_8 eb_0
noncomputable def d_L_2147 := gq_6 db67h_8 eb_77
noncomputable def d_L_2149 := gq_7 db67h_8 eb_55
noncomputable def d_L_2150 := gq_8 db67h_8 eb_36
noncomputable def d_L_2151 := gq_9 db67h_8 eb_38
noncomputable def d_L_2152 := gq_10 db67h_8 eb_1533
noncomputable def d_L_2155 := gq_11 db67h_8 eb_483
noncomputable def d_L_2156 := gq_12 db67h_8 eb_1534
noncomputable def d_L_2159 := gq_13 db67h_8 eb_24
noncomputable def d_L_2160 := gq_14 db67h_8 eb_1535
noncomputable def d_L_2163 := gq_15 db67h_8 eb_483
noncomputable def d_L_2164 := gq_16 db67h_8 eb_304
noncomputable def d_L_2165 := gq_17 db67h_8 eb_1536
noncomputable def d_L_2168 := gq_18 db67h_8 eb_483
noncomputable def d_L_2169 := gq_19 db67h_8 eb_1537
noncomputable def d_L_2172 := gq_20 db67h_8 eb_24
noncomputable def d_L_2173 := gq_21 db67h_8 eb_0
noncomputable def d_L_2174 := gq_22 db67h_8 eb_77
noncomputable def d_L_2176 := gq_23 db67h_8 eb_20
theorem db67h_9 : Pf_ code [(2177, [0x60]), (2178, [0x2e]), (2179, [0x2a]), (2180, [0x15, 0x04]), (2182, [0x05]), (2183, [0x60]), (2184, [0x2e]), (2185, [0xb6, 0x00, 0xeb]), (2188, [0x57]), (2189, [0x2c]), (2190, [0x2a]), (2191, [0x15, 0x04]), (2193, [0x04]), (2194, [0x60]), (2195, [0x2e]), (2196, [0x2a]), (2197, [0x15, 0x04]), (2199, [0x05]), (2200, [0x60]), (2201, [0x2e]), (2202, [0xb6, 0x00, 0xee]), (2205, [0x57]), (2206, [0xa7, 0x00, 0xc8]), (2209, [0x2b])] := pf_ok code _ 2177 (by decide +kernel)
noncomputable def d_L_2177 := gq_0 db67h_9 eb_36
noncomputable def d_L_2178 := gq_1 db67h_9 eb_38
noncomputable def d_L_2179 := gq_2 db67h_9 eb_0
noncomputable def d_L_2180 := gq_3 db67h_9 eb_77
noncomputable def d_L_2182 := gq_4 db67h_9 eb_11
noncomputable def d_L_2183 := gq_5 db67h_9 eb_36
noncomputable def d_L_2184 := gq_6 db67h_9 eb_38
noncomputable def d_L_2185 := gq_7 db67h_9 eb_1538
noncomputable def d_L_2188 := gq_8 db67h_9 eb_483
noncomputable def d_L_2189 := gq_9 db67h_9 eb_304
noncomputable def d_L_2190 := gq_10 db67h_9 eb_0
noncomputable def d_L_2191 := gq_11 db67h_9 eb_77
noncomputable def d_L_2193 := gq_12 db67h_9 eb_20
noncomputable def d_L_2194 := gq_13 db67h_9 eb_36
noncomputable def d_L_2195 := gq_14 db67h_9 eb_38
noncomputable def d_L_2196 := gq_15 db67h_9 eb_0
noncomputable def d_L_2197 := gq_16 db67h_9 eb_77
noncomputable def d_L_2199 := gq_17 db67h_9 eb_11
noncomputable def d_L_2200 := gq_18 db67h_9 eb_36
noncomputable def d_L_2201 := gq_19 db67h_9 eb_38
noncomputable def d_L_2202 := gq_20 db67h_9 eb_1539
noncomputable def d_L_2205 := gq_21 db67h_9 eb_483
noncomputable def d_L_2206 := gq_22 db67h_9 eb_1540
noncomputable def d_L_2209 := gq_23 db67h_9 eb_24
theorem db67h_10 : Pf_ code [(2210, [0x2a]), (2211, [0x15, 0x04]), (2213, [0x04]), (2214, [0x60]), (2215, [0x2e]), (2216, [0x2a]), (2217, [0x15, 0x04]), (2219, [0x05]), (2220, [0x60]), (2221, [0x2e]), (2222, [0x2a]), (2223, [0x15, 0x04]), (2225, [0x06]), (2226, [0x60]), (2227, [0x2e]), (2228, [0xb6, 0x00, 0xef]), (2231, [0x57]), (2232, [0x2c]), (2233, [0x2a]), (2234, [0x15, 0x04]), (2236, [0x04]), (2237, [0x60]), (2238, [0x2e]), (2239, [0x2a])] := pf_ok code _ 2210 (by decide +kernel)
noncomputable def d_L_2210 := gq_0 db67h_10 eb_0
noncomputable def d_L_2211 := gq_1 db67h_10 eb_77
noncomputable def d_L_2213 := gq_2 db67h_10 eb_20
noncomputable def d_L_2214 := gq_3 db67h_10 eb_36
noncomputable def d_L_2215 := gq_4 db67h_10 eb_38
noncomputable def d_L_2216 := gq_5 db67h_10 eb_0
noncomputable def d_L_2217 := gq_6 db67h_10 eb_77
noncomputable def d_L_2219 := gq_7 db67h_10 eb_11
noncomputable def d_L_2220 := gq_8 db67h_10 eb_36
noncomputable def d_L_2221 := gq_9 db67h_10 eb_38
noncomputable def d_L_2222 := gq_10 db67h_10 eb_0
noncomputable def d_L_2223 := gq_11 db67h_10 eb_77
noncomputable def d_L_2225 := gq_12 db67h_10 eb_55
noncomputable def d_L_2226 := gq_13 db67h_10 eb_36
noncomputable def d_L_2227 := gq_14 db67h_10 eb_38
noncomputable def d_L_2228 := gq_15 db67h_10 eb_1541
noncomputable def d_L_2231 := gq_16 db67h_10 eb_483
noncomputable def d_L_2232 := gq_17 db67h_10 eb_304
noncomputable def d_L_2233 := gq_18 db67h_10 eb_0
noncomputable def d_L_2234 := gq_19 db67h_10 eb_77
noncomputable def d_L_2236 := gq_20 db67h_10 eb_20
noncomputable def d_L_2237 := gq_21 db67h_10 eb_36
noncomputable def d_L_2238 := gq_22 db67h_10 eb_38
noncomputable def d_L_2239 := gq_23 db67h_10 eb_0
theorem db67h_11 : Pf_ code [(2240, [0x15, 0x04]), (2242, [0x05]), (2243, [0x60]), (2244, [0x2e]), (2245, [0x2a]), (2246, [0x15, 0x04]), (2248, [0x06]), (2249, [0x60]), (2250, [0x2e]), (2251, [0xb6, 0x00, 0xf2]), (2254, [0x57]), (2255, [0xa7, 0x00, 0x97]), (2258, [0x2b]), (2259, [0x2a]), (2260, [0x15, 0x04]), (2262, [0x04]), (2263, [0x60]), (2264, [0x2e]), (2265, [0xb6, 0x00, 0xf3]), (2268, [0x57]), (2269, [0x2c]), (2270, [0x2a]), (2271, [0x15, 0x04]), (2273, [0x04])] := pf_ok code _ 2240 (by decide +kernel)
noncomputable def d_L_2240 := gq_0 db67h_11 eb_77
noncomputable def d_L_2242 := gq_1 db67h_11 eb_11
noncomputable def d_L_2243 := gq_2 db67h_11 eb_36
noncomputable def d_L_2244 := gq_3 db67h_11 eb_38
noncomputable def d_L_2245 := gq_4 db67h_11 eb_0
noncomputable def d_L_2246 := gq_5 db67h_11 eb_77
noncomputable def d_L_2248 := gq_6 db67h_11 eb_55
noncomputable def d_L_2249 := gq_7 db67h_11 eb_36
noncomputable def d_L_2250 := gq_8 db67h_11 eb_38
noncomputable def d_L_2251 := gq_9 db67h_11 eb_1542
noncomputable def d_L_2254 := gq_10 db67h_11 eb_483
noncomputable def d_L_2255 := gq_11 db67h_11 eb_1543
noncomputable def d_L_2258 := gq_12 db67h_11 eb_24
noncomputable def d_L_2259 := gq_13 db67h_11 eb_0
noncomputable def d_L_2260 := gq_14 db67h_11 eb_77
noncomputable def d_L_2262 := gq_15 db67h_11 eb_20
noncomputable def d_L_2263 := gq_16 db67h_11 eb_36
noncomputable def d_L_2264 := gq_17 db67h_11 eb_38
noncomputable def d_L_2265 := gq_18 db67h_11 eb_1544
noncomputable def d_L_2268 := gq_19 db67h_11 eb_483
noncomputable def d_L_2269 := gq_20 db67h_11 eb_304
noncomputable def d_L_2270 := gq_21 db67h_11 eb_0
noncomputable def d_L_2271 := gq_22 db67h_11 eb_77
noncomputable def d_L_2273 := gq_23 db67h_11 eb_20
theorem db67h_12 : Pf_ code [(2274, [0x60]), (2275, [0x2e]), (2276, [0xb6, 0x00, 0xf6]), (2279, [0x57]), (2280, [0xa7, 0x00, 0x7e]), (2283, [0x2b]), (2284, [0x2a]), (2285, [0x15, 0x04]), (2287, [0x04]), (2288, [0x60]), (2289, [0x2e]), (2290, [0x2a]), (2291, [0x15, 0x04]), (2293, [0x05]), (2294, [0x60]), (2295, [0x2e]), (2296, [0xb6, 0x00, 0xf7]), (2299, [0x57]), (2300, [0x2c]), (2301, [0x2a]), (2302, [0x15, 0x04]), (2304, [0x04]), (2305, [0x60]), (2306, [0x2e])] := pf_ok code _ 2274 (by decide +kernel)
noncomputable def d_L_2274 := gq_0 db67h_12 eb_36
noncomputable def d_L_2275 := gq_1 db67h_12 eb_38
noncomputable def d_L_2276 := gq_2 db67h_12 eb_1545
noncomputable def d_L_2279 := gq_3 db67h_12 eb_483
noncomputable def d_L_2280 := gq_4 db67h_12 eb_1546
noncomputable def d_L_2283 := gq_5 db67h_12 eb_24
noncomputable def d_L_2284 := gq_6 db67h_12 eb_0
noncomputable def d_L_2285 := gq_7 db67h_12 eb_77
noncomputable def d_L_2287 := gq_8 db67h_12 eb_20
noncomputable def d_L_2288 := gq_9 db67h_12 eb_36
noncomputable def d_L_2289 := gq_10 db67h_12 eb_38
noncomputable def d_L_2290 := gq_11 db67h_12 eb_0
noncomputable def d_L_2291 := gq_12 db67h_12 eb_77
noncomputable def d_L_2293 := gq_13 db67h_12 eb_11
noncomputable def d_L_2294 := gq_14 db67h_12 eb_36
noncomputable def d_L_2295 := gq_15 db67h_12 eb_38
noncomputable def d_L_2296 := gq_16 db67h_12 eb_1547
noncomputable def d_L_2299 := gq_17 db67h_12 eb_483
noncomputable def d_L_2300 := gq_18 db67h_12 eb_304
noncomputable def d_L_2301 := gq_19 db67h_12 eb_0
noncomputable def d_L_2302 := gq_20 db67h_12 eb_77
noncomputable def d_L_2304 := gq_21 db67h_12 eb_20
noncomputable def d_L_2305 := gq_22 db67h_12 eb_36
noncomputable def d_L_2306 := gq_23 db67h_12 eb_38
theorem db67h_13 : Pf_ code [(2307, [0x2a]), (2308, [0x15, 0x04]), (2310, [0x05]), (2311, [0x60]), (2312, [0x2e]), (2313, [0xb6, 0x00, 0xfa]), (2316, [0x57]), (2317, [0xa7, 0x00, 0x59]), (2320, [0x2b]), (2321, [0x2a]), (2322, [0x15, 0x04]), (2324, [0x04]), (2325, [0x60]), (2326, [0x2e]), (2327, [0x2a]), (2328, [0x15, 0x04]), (2330, [0x05]), (2331, [0x60]), (2332, [0x2e]), (2333, [0x2a]), (2334, [0x15, 0x04]), (2336, [0x06]), (2337, [0x60]), (2338, [0x2e])] := pf_ok code _ 2307 (by decide +kernel)
noncomputable def d_L_2307 := gq_0 db67h_13 eb_0
noncomputable def d_L_2308 := gq_1 db67h_13 eb_77
noncomputable def d_L_2310 := gq_2 db67h_13 eb_11
noncomputable def d_L_2311 := gq_3 db67h_13 eb_36
noncomputable def d_L_2312 := gq_4 db67h_13 eb_38
noncomputable def d_L_2313 := gq_5 db67h_13 eb_1548
noncomputable def d_L_2316 := gq_6 db67h_13 eb_483
noncomputable def d_L_2317 := gq_7 db67h_13 eb_1549
noncomputable def d_L_2320 := gq_8 db67h_13 eb_24
noncomputable def d_L_2321 := gq_9 db67h_13 eb_0
noncomputable def d_L_2322 := gq_10 db67h_13 eb_77
noncomputable def d_L_2324 := gq_11 db67h_13 eb_20
noncomputable def d_L_2325 := gq_12 db67h_13 eb_36
noncomputable def d_L_2326 := gq_13 db67h_13 eb_38
noncomputable def d_L_2327 := gq_14 db67h_13 eb_0
noncomputable def d_L_2328 := gq_15 db67h_13 eb_77
noncomputable def d_L_2330 := gq_16 db67h_13 eb_11
noncomputable def d_L_2331 := gq_17 db67h_13 eb_36
noncomputable def d_L_2332 := gq_18 db67h_13 eb_38
noncomputable def d_L_2333 := gq_19 db67h_13 eb_0
noncomputable def d_L_2334 := gq_20 db67h_13 eb_77
noncomputable def d_L_2336 := gq_21 db67h_13 eb_55
noncomputable def d_L_2337 := gq_22 db67h_13 eb_36
noncomputable def d_L_2338 := gq_23 db67h_13 eb_38
theorem db67h_14 : Pf_ code [(2339, [0x2a]), (2340, [0x15, 0x04]), (2342, [0x07]), (2343, [0x60]), (2344, [0x2e]), (2345, [0xb6, 0x00, 0xfb]), (2348, [0x57]), (2349, [0x2c]), (2350, [0x2a]), (2351, [0x15, 0x04]), (2353, [0x04]), (2354, [0x60]), (2355, [0x2e]), (2356, [0x2a]), (2357, [0x15, 0x04]), (2359, [0x05]), (2360, [0x60]), (2361, [0x2e]), (2362, [0x2a]), (2363, [0x15, 0x04]), (2365, [0x06]), (2366, [0x60]), (2367, [0x2e]), (2368, [0x2a])] := pf_ok code _ 2339 (by decide +kernel)
noncomputable def d_L_2339 := gq_0 db67h_14 eb_0
noncomputable def d_L_2340 := gq_1 db67h_14 eb_77
noncomputable def d_L_2342 := gq_2 db67h_14 eb_294
noncomputable def d_L_2343 := gq_3 db67h_14 eb_36
noncomputable def d_L_2344 := gq_4 db67h_14 eb_38
noncomputable def d_L_2345 := gq_5 db67h_14 eb_1550
noncomputable def d_L_2348 := gq_6 db67h_14 eb_483
noncomputable def d_L_2349 := gq_7 db67h_14 eb_304
noncomputable def d_L_2350 := gq_8 db67h_14 eb_0
noncomputable def d_L_2351 := gq_9 db67h_14 eb_77
noncomputable def d_L_2353 := gq_10 db67h_14 eb_20
noncomputable def d_L_2354 := gq_11 db67h_14 eb_36
noncomputable def d_L_2355 := gq_12 db67h_14 eb_38
noncomputable def d_L_2356 := gq_13 db67h_14 eb_0
noncomputable def d_L_2357 := gq_14 db67h_14 eb_77
noncomputable def d_L_2359 := gq_15 db67h_14 eb_11
noncomputable def d_L_2360 := gq_16 db67h_14 eb_36
noncomputable def d_L_2361 := gq_17 db67h_14 eb_38
noncomputable def d_L_2362 := gq_18 db67h_14 eb_0
noncomputable def d_L_2363 := gq_19 db67h_14 eb_77
noncomputable def d_L_2365 := gq_20 db67h_14 eb_55
noncomputable def d_L_2366 := gq_21 db67h_14 eb_36
noncomputable def d_L_2367 := gq_22 db67h_14 eb_38
noncomputable def d_L_2368 := gq_23 db67h_14 eb_0
theorem db67h_15 : Pf_ code [(2369, [0x15, 0x04]), (2371, [0x07]), (2372, [0x60]), (2373, [0x2e]), (2374, [0xb6, 0x00, 0xff]), (2377, [0x57]), (2378, [0xa7, 0x00, 0x1c]), (2381, [0x2b]), (2382, [0x2a]), (2383, [0x15, 0x04]), (2385, [0x04]), (2386, [0x60]), (2387, [0x2e]), (2388, [0xb6, 0x01, 0x00]), (2391, [0x57]), (2392, [0x2c]), (2393, [0x2a]), (2394, [0x15, 0x04]), (2396, [0x04]), (2397, [0x60]), (2398, [0x2e]), (2399, [0xb6, 0x01, 0x03]), (2402, [0x57]), (2403, [0xa7, 0x00, 0x03])] := pf_ok code _ 2369 (by decide +kernel)
noncomputable def d_L_2369 := gq_0 db67h_15 eb_77
noncomputable def d_L_2371 := gq_1 db67h_15 eb_294
noncomputable def d_L_2372 := gq_2 db67h_15 eb_36
noncomputable def d_L_2373 := gq_3 db67h_15 eb_38
noncomputable def d_L_2374 := gq_4 db67h_15 eb_1551
noncomputable def d_L_2377 := gq_5 db67h_15 eb_483
noncomputable def d_L_2378 := gq_6 db67h_15 eb_1552
noncomputable def d_L_2381 := gq_7 db67h_15 eb_24
noncomputable def d_L_2382 := gq_8 db67h_15 eb_0
noncomputable def d_L_2383 := gq_9 db67h_15 eb_77
noncomputable def d_L_2385 := gq_10 db67h_15 eb_20
noncomputable def d_L_2386 := gq_11 db67h_15 eb_36
noncomputable def d_L_2387 := gq_12 db67h_15 eb_38
noncomputable def d_L_2388 := gq_13 db67h_15 eb_1553
noncomputable def d_L_2391 := gq_14 db67h_15 eb_483
noncomputable def d_L_2392 := gq_15 db67h_15 eb_304
noncomputable def d_L_2393 := gq_16 db67h_15 eb_0
noncomputable def d_L_2394 := gq_17 db67h_15 eb_77
noncomputable def d_L_2396 := gq_18 db67h_15 eb_20
noncomputable def d_L_2397 := gq_19 db67h_15 eb_36
noncomputable def d_L_2398 := gq_20 db67h_15 eb_38
noncomputable def d_L_2399 := gq_21 db67h_15 eb_1554
noncomputable def d_L_2402 := gq_22 db67h_15 eb_483
noncomputable def d_L_2403 := gq_23 db67h_15 eb_1555
theorem db67h_16 : Pf_ code [(2406, [0x84, 0x04, 0x06]), (2409, [0xa7, 0xf6, 0xae]), (2412, [0x04]), (2413, [0xac])] := pf_ok code _ 2406 (by decide +kernel)
noncomputable def d_L_2406 := gq_0 db67h_16 eb_1556
noncomputable def d_L_2409 := gq_1 db67h_16 eb_1557
noncomputable def d_L_2412 := gq_2 db67h_16 eb_20
noncomputable def d_L_2413 := gq_3 db67h_16 eb_16
end
section
/-! the fresh heap keeps the account -/
theorem tb_0 : tbl.all (fun q => rsub (0, 0) q.2.1 && q.2.2.all (fun p => rsub (0, 0) p.2)) = true := by decide +kernel
theorem tf_0 (a k : Nat) : rin (0 : Int32).toInt (tf a k) := by
  have z : (0 : Int32).toInt = 0 := rfl
  have z0 : rin (0 : Int32).toInt (0, 0) := by rw [z]; exact ⟨Int.le_refl _, Int.le_refl _⟩
  unfold tf
  cases e : lk (cn a) tbl with
  | none => exact rtop_in _
  | some q =>
    obtain ⟨d, l⟩ := q
    have t := List.all_eq_true.mp tb_0 _ (lk_mem e)
    rw [Bool.and_eq_true] at t
    show rin _ ((lk k l).getD d)
    cases f : lk k l with
    | none => exact rsub_in t.1 z0
    | some r => exact rsub_in (List.all_eq_true.mp t.2 _ (lk_mem f)) z0
noncomputable def gz3 (a : Nat) : Bool := Nat.beq a 228 || Nat.beq a 229 || Nat.beq a 232
noncomputable def Gd (h : Hp_) : Prop := (∀ a k, rin (h_i h a k).toInt (tf a k)) ∧ (∀ k, h_r h 15 k = none) ∧ ∀ a, gz3 a = true → ∀ k, h_i h a k = 0
theorem Gd.nw {h : Hp_} {a t n : Nat} (g : Gd h) : Gd (h_nw h a t n) := by
  refine ⟨fun b k => ?_, fun k => ?_, fun b hb k => ?_⟩
  · rw [y_i]
    split
    · exact tf_0 _ _
    · exact g.1 b k
  · rw [y_r]
    split
    · rfl
    · exact g.2.1 k
  · rw [y_i]
    split
    · rfl
    · exact g.2.2 b hb k
theorem Gd.rm {h : Hp_} {a k : Nat} {x : Option Nat} (g : Gd h) (n : Nat.beq a 15 = false) : Gd (h_rm h a k x) := by
  refine ⟨g.1, fun j => ?_, g.2.2⟩
  rw [h_r_rm, if_neg (fun z => by rw [← z.1, Nat.beq_refl] at n; cases n)]
  exact g.2.1 j
theorem Gd.im {h : Hp_} {a k : Nat} {x : Int32} (g : Gd h) (c : rsub (x.toInt, x.toInt) (tf a k) = true) (n : gz3 a = false) : Gd (h_im h a k x) := by
  refine ⟨fun b j => ?_, g.2.1, fun b hb j => ?_⟩
  · rw [h_i_im]
    split
    · rename_i e
      rw [e.1, e.2]; exact rsub_in c ⟨Int.le_refl _, Int.le_refl _⟩
    · exact g.1 b j
  · rw [h_i_im, if_neg (fun z => by rw [z.1, n] at hb; cases hb)]
    exact g.2.2 b hb j
theorem Gd.iw {h : Hp_} {a : Nat} {f : Nat → Int32} (g : Gd h) (c : tfa a = some rtop) (n : gz3 a = false) : Gd (h_iw h a f) := by
  refine ⟨fun b j => ?_, g.2.1, fun b hb j => ?_⟩
  · rw [h_i_iw]
    split
    · rename_i e
      rw [e, tfa_tf c]; exact rtop_in _
    · exact g.1 b j
  · rw [h_i_iw, if_neg (fun z => by rw [z, n] at hb; cases hb)]
    exact g.2.2 b hb j
theorem gd_E : Gd hE := ⟨fun _ _ => tf_0 _ _, fun _ => rfl, fun _ _ _ => rfl⟩
theorem gd_CH_10 {h : Hp_} (g : Gd h) : Gd (CH_10 h) := by
  unfold CH_10
  refine Gd.iw ?_ (by decide +kernel) rfl
  refine Gd.rm ?_ rfl
  refine Gd.nw ?_
  exact g
theorem gd_CH_11 {h : Hp_} (g : Gd h) : Gd (CH_11 h) := by
  unfold CH_11
  refine Gd.rm ?_ rfl
  refine Gd.nw ?_
  refine Gd.rm ?_ rfl
  refine Gd.nw ?_
  refine Gd.rm ?_ rfl
  refine Gd.rm ?_ rfl
  refine Gd.nw ?_
  exact g
theorem gd_CH_12 {h : Hp_} (g : Gd h) : Gd (CH_12 h) := by
  unfold CH_12
  refine Gd.rm ?_ rfl
  refine Gd.nw ?_
  refine Gd.rm ?_ rfl
  refine Gd.nw ?_
  refine Gd.rm ?_ rfl
  refine Gd.nw ?_
  exact g
theorem gd_CH_13 {h : Hp_} (g : Gd h) : Gd (CH_13 h) := by
  unfold CH_13
  refine Gd.rm ?_ rfl
  refine Gd.nw ?_
  refine Gd.rm ?_ rfl
  refine Gd.nw ?_
  refine Gd.rm ?_ rfl
  refine Gd.nw ?_
  refine Gd.rm ?_ rfl
  refine Gd.nw ?_
  refine Gd.rm ?_ rfl
  refine Gd.nw ?_
  exact g
theorem gd_CH_14 {h : Hp_} (g : Gd h) : Gd (CH_14 h) := by
  unfold CH_14
  refine Gd.rm ?_ rfl
  refine Gd.nw ?_
  refine Gd.rm ?_ rfl
  refine Gd.nw ?_
  refine Gd.rm ?_ rfl
  refine Gd.nw ?_
  refine Gd.rm ?_ rfl
  refine Gd.nw ?_
  refine Gd.rm ?_ rfl
  refine Gd.nw ?_
  exact g
theorem gd_CH_16 {h : Hp_} (g : Gd h) : Gd (CH_16 h) := by
  unfold CH_16
  refine Gd.rm ?_ rfl
  refine Gd.nw ?_
  refine Gd.rm ?_ rfl
  refine Gd.nw ?_
  refine Gd.rm ?_ rfl
  refine Gd.nw ?_
  refine Gd.rm ?_ rfl
  refine Gd.nw ?_
  refine Gd.rm ?_ rfl
  refine Gd.nw ?_
  refine Gd.rm ?_ rfl
  refine Gd.nw ?_
  refine Gd.rm ?_ rfl
  refine Gd.nw ?_
  refine Gd.rm ?_ rfl
  refine Gd.nw ?_
  refine Gd.rm ?_ rfl
  refine Gd.nw ?_
  refine Gd.rm ?_ rfl
  refine Gd.nw ?_
  exact g
theorem gd_CH_17 {h : Hp_} (g : Gd h) : Gd (CH_17 h) := by
  unfold CH_17
  refine Gd.rm ?_ rfl
  refine Gd.nw ?_
  refine Gd.rm ?_ rfl
  refine Gd.nw ?_
  refine Gd.rm ?_ rfl
  refine Gd.nw ?_
  refine Gd.rm ?_ rfl
  refine Gd.nw ?_
  refine Gd.rm ?_ rfl
  refine Gd.nw ?_
  refine Gd.rm ?_ rfl
  refine Gd.nw ?_
  refine Gd.rm ?_ rfl
  refine Gd.nw ?_
  refine Gd.rm ?_ rfl
  refine Gd.nw ?_
  refine Gd.rm ?_ rfl
  refine Gd.nw ?_
  refine Gd.rm ?_ rfl
  refine Gd.nw ?_
  refine Gd.rm ?_ rfl
  refine Gd.nw ?_
  refine Gd.rm ?_ rfl
  refine Gd.nw ?_
  refine Gd.rm ?_ rfl
  refine Gd.nw ?_
  refine Gd.rm ?_ rfl
  refine Gd.nw ?_
  exact g
theorem gd_CH_18 {h : Hp_} (g : Gd h) : Gd (CH_18 h) := by
  unfold CH_18
  refine Gd.iw ?_ (by decide +kernel) rfl
  refine Gd.iw ?_ (by decide +kernel) rfl
  refine Gd.rm ?_ rfl
  refine Gd.nw ?_
  refine Gd.rm ?_ rfl
  refine Gd.nw ?_
  refine Gd.rm ?_ rfl
  refine Gd.nw ?_
  refine Gd.rm ?_ rfl
  refine Gd.nw ?_
  refine Gd.rm ?_ rfl
  refine Gd.nw ?_
  refine Gd.rm ?_ rfl
  refine Gd.nw ?_
  refine Gd.rm ?_ rfl
  refine Gd.nw ?_
  refine Gd.rm ?_ rfl
  refine Gd.nw ?_
  refine Gd.rm ?_ rfl
  refine Gd.nw ?_
  refine Gd.rm ?_ rfl
  refine Gd.nw ?_
  refine Gd.rm ?_ rfl
  refine Gd.nw ?_
  refine Gd.rm ?_ rfl
  refine Gd.nw ?_
  refine Gd.rm ?_ rfl
  refine Gd.nw ?_
  refine Gd.rm ?_ rfl
  refine Gd.nw ?_
  exact g
theorem gd_CH_19 {h : Hp_} (g : Gd h) : Gd (CH_19 h) := by
  unfold CH_19
  refine Gd.rm ?_ rfl
  refine Gd.nw ?_
  refine Gd.rm ?_ rfl
  refine Gd.nw ?_
  refine Gd.rm ?_ rfl
  refine Gd.nw ?_
  refine Gd.rm ?_ rfl
  refine Gd.nw ?_
  refine Gd.rm ?_ rfl
  refine Gd.nw ?_
  refine Gd.im ?_ (by decide +kernel) rfl
  refine Gd.im ?_ (by decide +kernel) rfl
  refine Gd.rm ?_ rfl
  refine Gd.nw ?_
  refine Gd.rm ?_ rfl
  refine Gd.nw ?_
  exact g
theorem gd_CH_20 {h : Hp_} (g : Gd h) : Gd (CH_20 h) := by
  unfold CH_20
  refine Gd.rm ?_ rfl
  refine Gd.nw ?_
  refine Gd.rm ?_ rfl
  refine Gd.nw ?_
  refine Gd.rm ?_ rfl
  refine Gd.nw ?_
  refine Gd.rm ?_ rfl
  refine Gd.nw ?_
  refine Gd.rm ?_ rfl
  refine Gd.nw ?_
  refine Gd.rm ?_ rfl
  refine Gd.nw ?_
  refine Gd.rm ?_ rfl
  refine Gd.nw ?_
  refine Gd.rm ?_ rfl
  refine Gd.nw ?_
  refine Gd.rm ?_ rfl
  refine Gd.nw ?_
  refine Gd.rm ?_ rfl
  refine Gd.nw ?_
  refine Gd.rm ?_ rfl
  refine Gd.nw ?_
  refine Gd.rm ?_ rfl
  refine Gd.nw ?_
  exact g
theorem gd_CH_21 {h : Hp_} (g : Gd h) : Gd (CH_21 h) := by
  unfold CH_21
  refine Gd.iw ?_ (by decide +kernel) rfl
  refine Gd.im ?_ (by decide +kernel) rfl
  refine Gd.rm ?_ rfl
  refine Gd.nw ?_
  refine Gd.rm ?_ rfl
  refine Gd.nw ?_
  refine Gd.rm ?_ rfl
  refine Gd.nw ?_
  refine Gd.rm ?_ rfl
  refine Gd.nw ?_
  refine Gd.rm ?_ rfl
  refine Gd.nw ?_
  refine Gd.rm ?_ rfl
  refine Gd.nw ?_
  refine Gd.rm ?_ rfl
  refine Gd.nw ?_
  refine Gd.rm ?_ rfl
  refine Gd.nw ?_
  refine Gd.rm ?_ rfl
  refine Gd.nw ?_
  refine Gd.rm ?_ rfl
  refine Gd.nw ?_
  refine Gd.rm ?_ rfl
  refine Gd.nw ?_
  refine Gd.rm ?_ rfl
  refine Gd.nw ?_
  exact g
theorem gd_CC_0 {h : Hp_} (g : Gd h) : Gd (CC_0 h) := by
  unfold CC_0
  refine Gd.rm ?_ rfl
  refine Gd.nw ?_
  refine Gd.rm ?_ rfl
  refine Gd.nw ?_
  refine Gd.rm ?_ rfl
  refine Gd.nw ?_
  refine Gd.rm ?_ rfl
  refine Gd.nw ?_
  refine Gd.rm ?_ rfl
  refine Gd.nw ?_
  refine Gd.rm ?_ rfl
  refine Gd.nw ?_
  refine Gd.rm ?_ rfl
  refine Gd.nw ?_
  refine Gd.rm ?_ rfl
  refine Gd.nw ?_
  refine Gd.rm ?_ rfl
  refine Gd.nw ?_
  refine Gd.rm ?_ rfl
  refine Gd.nw ?_
  refine Gd.rm ?_ rfl
  refine Gd.nw ?_
  refine Gd.rm ?_ rfl
  refine Gd.nw ?_
  refine Gd.rm ?_ rfl
  refine Gd.nw ?_
  refine Gd.rm ?_ rfl
  refine Gd.nw ?_
  refine Gd.rm ?_ rfl
  refine Gd.nw ?_
  exact g
theorem gd_CC_1 {h : Hp_} (g : Gd h) : Gd (CC_1 h) := by
  unfold CC_1
  refine Gd.rm ?_ rfl
  refine Gd.nw ?_
  refine Gd.rm ?_ rfl
  refine Gd.nw ?_
  refine Gd.rm ?_ rfl
  refine Gd.nw ?_
  refine Gd.rm ?_ rfl
  refine Gd.nw ?_
  refine Gd.rm ?_ rfl
  refine Gd.nw ?_
  refine Gd.rm ?_ rfl
  refine Gd.nw ?_
  refine Gd.rm ?_ rfl
  refine Gd.nw ?_
  refine Gd.rm ?_ rfl
  refine Gd.nw ?_
  refine Gd.rm ?_ rfl
  refine Gd.nw ?_
  refine Gd.rm ?_ rfl
  refine Gd.nw ?_
  refine Gd.rm ?_ rfl
  refine Gd.nw ?_
  refine Gd.rm ?_ rfl
  refine Gd.nw ?_
  refine Gd.rm ?_ rfl
  refine Gd.nw ?_
  refine Gd.rm ?_ rfl
  refine Gd.nw ?_
  refine Gd.rm ?_ rfl
  refine Gd.nw ?_
  exact g
theorem gd_CC_2 {h : Hp_} (g : Gd h) : Gd (CC_2 h) := by
  unfold CC_2
  refine Gd.rm ?_ rfl
  refine Gd.nw ?_
  refine Gd.rm ?_ rfl
  refine Gd.nw ?_
  refine Gd.rm ?_ rfl
  refine Gd.nw ?_
  refine Gd.rm ?_ rfl
  refine Gd.nw ?_
  refine Gd.rm ?_ rfl
  refine Gd.nw ?_
  refine Gd.rm ?_ rfl
  refine Gd.nw ?_
  refine Gd.rm ?_ rfl
  refine Gd.nw ?_
  refine Gd.rm ?_ rfl
  refine Gd.nw ?_
  refine Gd.rm ?_ rfl
  refine Gd.nw ?_
  refine Gd.rm ?_ rfl
  refine Gd.nw ?_
  refine Gd.rm ?_ rfl
  refine Gd.nw ?_
  refine Gd.rm ?_ rfl
  refine Gd.nw ?_
  refine Gd.rm ?_ rfl
  refine Gd.nw ?_
  refine Gd.rm ?_ rfl
  refine Gd.nw ?_
  refine Gd.rm ?_ rfl
  refine Gd.nw ?_
  exact g
theorem gd_CC_3 {h : Hp_} (g : Gd h) : Gd (CC_3 h) := by
  unfold CC_3
  refine Gd.rm ?_ rfl
  refine Gd.nw ?_
  refine Gd.rm ?_ rfl
  refine Gd.nw ?_
  refine Gd.rm ?_ rfl
  refine Gd.nw ?_
  refine Gd.rm ?_ rfl
  refine Gd.nw ?_
  refine Gd.rm ?_ rfl
  refine Gd.nw ?_
  refine Gd.rm ?_ rfl
  refine Gd.nw ?_
  refine Gd.rm ?_ rfl
  refine Gd.nw ?_
  refine Gd.rm ?_ rfl
  refine Gd.nw ?_
  refine Gd.rm ?_ rfl
  refine Gd.nw ?_
  refine Gd.rm ?_ rfl
  refine Gd.nw ?_
  refine Gd.rm ?_ rfl
  refine Gd.nw ?_
  refine Gd.rm ?_ rfl
  refine Gd.nw ?_
  refine Gd.rm ?_ rfl
  refine Gd.nw ?_
  refine Gd.rm ?_ rfl
  refine Gd.nw ?_
  refine Gd.rm ?_ rfl
  refine Gd.nw ?_
  exact g
theorem gd_CC_4 {h : Hp_} (g : Gd h) : Gd (CC_4 h) := by
  unfold CC_4
  refine Gd.rm ?_ rfl
  refine Gd.nw ?_
  refine Gd.rm ?_ rfl
  refine Gd.nw ?_
  refine Gd.rm ?_ rfl
  refine Gd.nw ?_
  refine Gd.rm ?_ rfl
  refine Gd.nw ?_
  refine Gd.rm ?_ rfl
  refine Gd.nw ?_
  refine Gd.rm ?_ rfl
  refine Gd.nw ?_
  refine Gd.rm ?_ rfl
  refine Gd.nw ?_
  refine Gd.rm ?_ rfl
  refine Gd.nw ?_
  refine Gd.rm ?_ rfl
  refine Gd.nw ?_
  refine Gd.rm ?_ rfl
  refine Gd.nw ?_
  refine Gd.rm ?_ rfl
  refine Gd.nw ?_
  refine Gd.rm ?_ rfl
  refine Gd.nw ?_
  refine Gd.rm ?_ rfl
  refine Gd.nw ?_
  refine Gd.rm ?_ rfl
  refine Gd.nw ?_
  refine Gd.rm ?_ rfl
  refine Gd.nw ?_
  exact g
theorem gd_CC_5 {h : Hp_} (g : Gd h) : Gd (CC_5 h) := by
  unfold CC_5
  refine Gd.rm ?_ rfl
  refine Gd.nw ?_
  refine Gd.rm ?_ rfl
  refine Gd.nw ?_
  refine Gd.rm ?_ rfl
  refine Gd.nw ?_
  refine Gd.rm ?_ rfl
  refine Gd.nw ?_
  refine Gd.rm ?_ rfl
  refine Gd.nw ?_
  refine Gd.rm ?_ rfl
  refine Gd.nw ?_
  refine Gd.rm ?_ rfl
  refine Gd.nw ?_
  refine Gd.rm ?_ rfl
  refine Gd.nw ?_
  refine Gd.rm ?_ rfl
  refine Gd.nw ?_
  refine Gd.im ?_ (by decide +kernel) rfl
  refine Gd.rm ?_ rfl
  refine Gd.nw ?_
  refine Gd.rm ?_ rfl
  refine Gd.nw ?_
  refine Gd.rm ?_ rfl
  refine Gd.nw ?_
  refine Gd.rm ?_ rfl
  refine Gd.nw ?_
  refine Gd.rm ?_ rfl
  refine Gd.nw ?_
  exact g
theorem gd_CC_6 {h : Hp_} (g : Gd h) : Gd (CC_6 h) := by
  unfold CC_6
  refine Gd.im ?_ (by decide +kernel) rfl
  refine Gd.rm ?_ rfl
  refine Gd.nw ?_
  refine Gd.rm ?_ rfl
  refine Gd.nw ?_
  refine Gd.rm ?_ rfl
  refine Gd.nw ?_
  refine Gd.rm ?_ rfl
  refine Gd.nw ?_
  refine Gd.rm ?_ rfl
  refine Gd.nw ?_
  refine Gd.rm ?_ rfl
  refine Gd.nw ?_
  refine Gd.rm ?_ rfl
  refine Gd.nw ?_
  refine Gd.rm ?_ rfl
  refine Gd.nw ?_
  refine Gd.rm ?_ rfl
  refine Gd.nw ?_
  refine Gd.rm ?_ rfl
  refine Gd.nw ?_
  refine Gd.rm ?_ rfl
  refine Gd.nw ?_
  exact g
theorem gd_CH_1 {h : Hp_} (g : Gd h) : Gd (CH_1 h) := by
  unfold CH_1
  refine Gd.im ?_ (by decide +kernel) rfl
  refine Gd.im ?_ (by decide +kernel) rfl
  refine Gd.im ?_ (by decide +kernel) rfl
  refine Gd.im ?_ (by decide +kernel) rfl
  refine Gd.im ?_ (by decide +kernel) rfl
  refine Gd.im ?_ (by decide +kernel) rfl
  refine Gd.im ?_ (by decide +kernel) rfl
  refine Gd.im ?_ (by decide +kernel) rfl
  exact gd_CC_6 (gd_CC_5 (gd_CC_4 (gd_CC_3 (gd_CC_2 (gd_CC_1 (gd_CC_0 g))))))
theorem gd_G0 : Gd G0 := Gd.nw gd_E
theorem gd_G1 : Gd G1 := Gd.nw gd_G0
theorem gd_G2 : Gd G2 := gd_CH_10 gd_G1
theorem gd_G3 : Gd G3 := Gd.rm gd_G2 rfl
theorem gd_G4 : Gd G4 := Gd.nw gd_G3
theorem gd_G5 : Gd G5 := gd_CH_11 gd_G4
theorem gd_G6 : Gd G6 := Gd.rm gd_G5 rfl
theorem gd_G7 : Gd G7 := Gd.nw gd_G6
theorem gd_G8 : Gd G8 := gd_CH_12 gd_G7
theorem gd_G9 : Gd G9 := Gd.rm gd_G8 rfl
theorem gd_G10 : Gd G10 := Gd.nw gd_G9
theorem gd_G11 : Gd G11 := gd_CH_13 gd_G10
theorem gd_G12 : Gd G12 := Gd.rm gd_G11 rfl
theorem gd_G13 : Gd G13 := Gd.nw gd_G12
theorem gd_G14 : Gd G14 := gd_CH_14 gd_G13
theorem gd_G15 : Gd G15 := Gd.rm gd_G14 rfl
theorem gd_G16 : Gd G16 := Gd.nw gd_G15
theorem gd_G17 : Gd G17 := Gd.rm gd_G16 rfl
theorem gd_G18 : Gd G18 := Gd.nw gd_G17
theorem gd_G19 : Gd G19 := gd_CH_16 gd_G18
theorem gd_G20 : Gd G20 := Gd.rm gd_G19 rfl
theorem gd_G21 : Gd G21 := Gd.nw gd_G20
theorem gd_G22 : Gd G22 := gd_CH_17 gd_G21
theorem gd_G23 : Gd G23 := Gd.rm gd_G22 rfl
theorem gd_G24 : Gd G24 := Gd.nw gd_G23
theorem gd_G25 : Gd G25 := gd_CH_18 gd_G24
theorem gd_G26 : Gd G26 := Gd.rm gd_G25 rfl
theorem gd_G27 : Gd G27 := Gd.nw gd_G26
theorem gd_G28 : Gd G28 := gd_CH_19 gd_G27
theorem gd_G29 : Gd G29 := Gd.rm gd_G28 rfl
theorem gd_G30 : Gd G30 := Gd.nw gd_G29
theorem gd_G31 : Gd G31 := gd_CH_20 gd_G30
theorem gd_G32 : Gd G32 := Gd.rm gd_G31 rfl
theorem gd_G33 : Gd G33 := Gd.nw gd_G32
theorem gd_G34 : Gd G34 := gd_CH_21 gd_G33
theorem gd_G35 : Gd G35 := Gd.rm gd_G34 rfl
theorem gd_G36 : Gd G36 := Gd.nw gd_G35
theorem gd_G37 : Gd G37 := Gd.rm gd_G36 rfl
theorem gd_F : Gd HF := Gd.nw (gd_CH_1 (Gd.nw (a := 1) (t := 22) (n := 131) gd_G37))
theorem hf_0_0 : h_i HF 0 0 = 0 := by decide +kernel
theorem hf_1_7 : h_i HF 1 7 = 0 := by decide +kernel
theorem hf_11_4 : h_r HF 11 4 = some 1000 := by decide +kernel
theorem hf_0_15 : h_r HF 0 15 = some 400 := by decide +kernel
theorem hf_400 : h_sh HF 400 = some (3, 0) := by decide +kernel
theorem hf_2 : h_sh HF 2 = some (3, 1) := by decide +kernel
theorem hf_free : (List.range 599).all (fun i => decide (h_sh HF (401 + i) = none)) = true := by decide +kernel
theorem hf_no {a : Nat} (h1 : 401 ≤ a) (h2 : a < 1000) : h_sh HF a = none := by
  have t := of_decide_eq_true (List.all_eq_true.mp hf_free (a - 401) (List.mem_range.mpr (by omega)))
  rw [show 401 + (a - 401) = a by omega] at t
  exact t
theorem iv_F : Iv HF := by
  refine ⟨wHF, gd_F.1, fun k => Or.inl (gd_F.2.1 k), ⟨0, by decide, hf_11_4⟩, ⟨400, 0, hf_0_15, hf_400, by decide, by rw [hf_0_0]; decide⟩, fun k _ => ?_, fun j hj _ => hf_no (by omega) (by omega), fun c N _ _ => ⟨0, by decide, Or.inl rfl, fun a h1 h2 => hf_no (by omega) h2⟩, fun t ht => ⟨0, ?_⟩⟩
  · rw [gd_F.2.2 229 rfl]; exact ⟨by decide, by decide⟩
  · show 560 * t = 560 * t + (h_i HF 232 t).toNatClampNeg
    rw [gd_F.2.2 232 rfl]; simp
theorem j2_F : J2 HF := fun c hc hm => by
  rw [hf_1_7] at hm
  have z : (0 : Int32).toInt = 0 := rfl
  omega
/-- what the law's loop keeps: the account, the men's account, the law's row, the history's length -/
noncomputable def Li0 (N : Nat) (h : Hp_) : Prop := Iv h ∧ J2 h ∧ h_sh h 2 = some (3, 1) ∧ ∃ c, h_r h 0 15 = some c ∧ h_sh h c = some (3, N)
theorem li0_F : Li0 0 HF := ⟨iv_F, j2_F, hf_2, 400, hf_0_15, hf_400⟩
theorem Li0.fr {N : Nat} {ws : List Nat} {h h' : Hp_} (L : Li0 N h) (I : Iv h') (f : Fr ws h h') (o : (jso ws && !inw ws 0 15) = true) : Li0 N h' := by
  rw [Bool.and_eq_true, Bool.not_eq_true'] at o
  obtain ⟨c, a, b⟩ := L.2.2.2
  exact ⟨I, J2_s (Js.fr f o.1) L.2.1, by rw [f.1]; exact L.2.2.1, c, by rw [(f.2 0 15 o.2).2.2]; exact a, by rw [f.1]; exact b⟩
theorem Li0.sn {N : Nat} {h h' : Hp_} (L : Li0 N h) (I : Iv h') (J : J2 h') (s : Sn h h') : Li0 N h' := by
  obtain ⟨c, a, b⟩ := L.2.2.2
  exact ⟨I, J, by rw [s.1]; exact L.2.2.1, c, by rw [(s.2 0 15 (by decide +kernel)).2.2]; exact a, by rw [s.1]; exact b⟩
theorem Li0.st {N : Nat} {h h' : Hp_} (L : Li0 N h) (I : Iv h') (J : J2 h') (s : Fr wsT h h') : Li0 N h' := by
  obtain ⟨c, a, b⟩ := L.2.2.2
  exact ⟨I, J, by rw [s.1]; exact L.2.2.1, c, by rw [(s.2 0 15 (by decide +kernel)).2.2]; exact a, by rw [s.1]; exact b⟩
theorem Li0.tick {N N' : Nat} {h h' : Hp_} {x r : Int32} (L : Li0 N h) (k : Iv h' ∧ Mf wsX h h' ∧ (∃ c', h_r h' 0 15 = some c' ∧ h_sh h' c' = some (3, N')) ∧ otk (h_i h 0 0) x r (h_i h' 0 0)) : Li0 N' h' := ⟨k.1, J2_s k.2.1.js L.2.1, by rw [k.2.1.2.2.1]; exact L.2.2.1, k.2.2.1⟩
theorem Li0.con {N : Nat} {h h' : Hp_} (L : Li0 N h) (x : Cx h h') : Li0 N h' := by
  obtain ⟨c, a, b⟩ := L.2.2.2
  exact ⟨x.1, J2_s x.2.1.js L.2.1, by rw [x.2.1.2.2.1]; exact L.2.2.1, c, by rw [x.2.2.1]; exact a, x.2.2.2 c N a b⟩
/-! the numbers that class and reference keep alike -/
noncomputable def Rlf (rl : List ((Nat × Nat) × Nat)) (h : Hp_) : Prop := ∀ q ∈ rl, h_i h q.1.1 q.1.2 = h_i h 1 q.2
theorem Rlf.fr {rl : List ((Nat × Nat) × Nat)} {ws : List Nat} {h h' : Hp_} (R : Rlf rl h) (f : Fr ws h h') (o : rl.all (fun q => !inw ws q.1.1 q.1.2 && !inw ws 1 q.2) = true) : Rlf rl h' := fun q hq => by
  have z := List.all_eq_true.mp o q hq
  rw [Bool.and_eq_true, Bool.not_eq_true', Bool.not_eq_true'] at z
  rw [(f.2 _ _ z.1).1, (f.2 _ _ z.2).1]
  exact R q hq
theorem Rlf.mf {rl : List ((Nat × Nat) × Nat)} {W : List Nat} {h h' : Hp_} (R : Rlf rl h) (f : Mf W h h') (o : rl.all (fun q => Nat.ble q.1.1 199 && !inw W q.1.1 q.1.2) = true) : Rlf rl h' := fun q hq => by
  have z := List.all_eq_true.mp o q hq
  rw [Bool.and_eq_true, Bool.not_eq_true', Nat.ble_eq] at z
  rw [(f.2.2.2 _ _ (Or.inl (by omega)) z.2).1, f.1 q.2]
  exact R q hq
end
