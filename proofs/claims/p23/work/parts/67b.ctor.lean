theorem rr_im {h : Hp_} {a k c s : Nat} {x : Int32} {y : Option Nat} (hr : h_r h c s = y) : h_r (h_im h a k x) c s = y := hr
theorem rr_step {h : Hp_} {k t n c s c' s' : Nat} {r y : Option Nat} (hr : h_r h c' s' = y) (h1 : c' ≠ k) (h2 : s' ≠ s) : h_r (h_rm (h_nw h k t n) c s r) c' s' = y := by
  rw [h_r_rm, if_neg (fun z => h2 z.2), h_r_nw, if_neg h1]
  exact hr
theorem rr_of {h : Hp_} {k t n c s b c' : Nat} {x : Option (Nat × Nat)} (_ : h_sh (h_rm (h_nw h k t n) c s (some b)) c' = x) : h_r (h_rm (h_nw h k t n) c s (some b)) c s = some b := by rw [h_r_rm, if_pos ⟨rfl, rfl⟩]
theorem sh_of {h : Hp_} {k t n c s b c' : Nat} {x : Option (Nat × Nat)} (_ : h_sh (h_rm (h_nw h k t n) c s (some b)) c' = x) : h_sh (h_rm (h_nw h k t n) c s (some b)) k = some (t, n) := by rw [h_sh_rm, h_sh_nw, if_pos rfl]
theorem ss_im {h : Hp_} {a k c : Nat} {x : Int32} {y : Option (Nat × Nat)} (hs : h_sh h c = y) : h_sh (h_im h a k x) c = y := hs
theorem nn_im {h : Hp_} {b k lo hi : Nat} {x : Int32} (hn : ∀ a, lo ≤ a → a < hi → h_sh h a = none) : ∀ a, lo ≤ a → a < hi → h_sh (h_im h b k x) a = none := hn
theorem ss_n {h : Hp_} {k t n c : Nat} {x : Option (Nat × Nat)} (hs : h_sh h c = x) (hk : c ≠ k) : h_sh (h_nw h k t n) c = x := by
  rw [h_sh_nw, if_neg hk]
  exact hs
def wk_ : Nat → Int32 := fun k => if k / 16 = k % 16 then 0 else 1000000
theorem wk_dec : ∀ i, i < 256 → ((Int32.ofNat i / 16 = Int32.ofNat i - Int32.ofNat i / 16 * 16) ↔ i / 16 = i % 16) := by decide +kernel
theorem lp_X9 (d mc ms kc ks : Nat) (h : Hp_) (K : Option Value → Hp_ → Prop) (hs : h_sh h 10 = some (19, 2)) (hr : h_r h 10 0 = some 30) (ha : h_sh h 30 = some (0, 256)) (k : AW (m_X9_init (d + 1) mc ms) kc ks 53 [(0, .ref 10)] [] (h_iw h 30 (fl_ wk_ (h_i h 30) 256)) K) : AW (m_X9_init (d + 1) mc ms) kc ks 15 [(0, .ref 10), (1, .int 0)] [] h K := by
  have key : ∀ r i : Nat, r + i = 256 → AW (m_X9_init (d + 1) mc ms) kc ks 15 [(0, .ref 10), (1, .int (Int32.ofNat i))] [] (h_iw h 30 (fl_ wk_ (h_i h 30) i)) K := by
    intro r
    induction r with
    | zero =>
      intro i hi
      have e : i = 256 := by omega
      subst e
      refine aw_iload_n (i := 1) rfl d_X9_init_15 1 rfl ?_
      refine aw_aload_n (i := 0) rfl d_X9_init_16 0 rfl ?_
      refine aw_getr (k0 := 0) (b := 30) kc_9 hs (Nat.le_of_ble_eq_true rfl) tw_42 d_X9_init_17 rfl hr ?_
      refine aw_alen (v := 256) ha (by decide) (by decide) d_X9_init_20 ?_
      refine aw_icmp_ge (tgt := 53) d_X9_init_21 rfl (fun _ => ?_) (fun c => absurd c (by decide))
      exact aw_lvp [0] [(0, .ref 10)] rfl k
    | succ r ih =>
      intro i hi
      refine aw_iload_n (i := 1) rfl d_X9_init_15 1 rfl ?_
      refine aw_aload_n (i := 0) rfl d_X9_init_16 0 rfl ?_
      refine aw_getr (k0 := 0) (b := 30) kc_9 hs (Nat.le_of_ble_eq_true rfl) tw_42 d_X9_init_17 rfl hr ?_
      refine aw_alen (v := Int32.ofNat 256) ha (by decide) rfl d_X9_init_20 ?_
      refine aw_icmp_ge (tgt := 53) d_X9_init_21 rfl (fun c => absurd ((on_le (by decide) (by omega)).mp c) (by omega)) (fun _ => ?_)
      refine aw_aload_n (i := 0) rfl d_X9_init_24 0 rfl ?_
      refine aw_getr (k0 := 0) (b := 30) kc_9 hs (Nat.le_of_ble_eq_true rfl) tw_42 d_X9_init_25 rfl hr ?_
      refine aw_iload_n (i := 1) rfl d_X9_init_28 1 rfl ?_
      refine aw_iload_n (i := 1) rfl d_X9_init_29 1 rfl ?_
      refine aw_bipush (v := 16) d_X9_init_30 ib_16 ?_
      refine aw_idiv d_X9_init_32 (by decide) ?_
      refine aw_iload_n (i := 1) rfl d_X9_init_33 1 rfl ?_
      refine aw_bipush (v := 16) d_X9_init_34 ib_16 ?_
      refine aw_irem d_X9_init_36 (by decide) ?_
      have fin : ∀ x : Int32, x = wk_ i → AW (m_X9_init (d + 1) mc ms) kc ks 46 [(0, .ref 10), (1, .int (Int32.ofNat i))] [.int x, .int (Int32.ofNat i), .ref 30] (h_iw h 30 (fl_ wk_ (h_i h 30) i)) K := by
        intro x hx
        subst hx
        refine aw_iast ha (on_inp (by omega) (by decide)) d_X9_init_46 ?_
        refine aw_iinc (v := Int32.ofNat (i + 1)) [(0, .ref 10), (1, .int (Int32.ofNat (i + 1)))] d_X9_init_47 1 rfl (on_suc i) (Nat.le_of_ble_eq_true rfl) rfl rfl ?_
        refine aw_goto (tgt := 15) d_X9_init_50 rfl ?_
        rw [on_nat (by omega), iw_st h 30 i wk_ (h_i h 30)]
        exact ih (i + 1) (by omega)
      refine aw_icmp_ne (tgt := 44) d_X9_init_37 rfl (fun c => ?_) (fun c => ?_)
      · refine aw_ldc (v := 1000000) d_X9_init_44 tw_41 ?_
        exact fin _ (by unfold wk_; rw [if_neg (fun z => c ((wk_dec i (by omega)).mpr z))])
      · refine aw_iconst (v := 0) d_X9_init_40 ic_0 ?_
        refine aw_goto (tgt := 46) d_X9_init_41 rfl ?_
        exact fin _ (by unfold wk_; rw [if_pos ((wk_dec i (by omega)).mp c)])
  have k0 := key 256 0 (by omega)
  rw [iw_0] at k0
  exact k0

set_option maxRecDepth 100000 in
def CH_10 (h : Hp_) : Hp_ := h_iw (h_rm (h_nw h 30 0 256) 10 0 (some 30)) 30 (fl_ wk_ (h_i (h_rm (h_nw h 30 0 256) 10 0 (some 30)) 30) 256)
set_option maxRecDepth 100000 in
theorem k_X9_init_10 (d : Nat) (h : Hp_) (hs : h_sh h 10 = some (19, 2)) (hn : ∀ a, 30 ≤ a → a < 31 → h_sh h a = none) : Cv (m_X9_init (d + 1) 1 256) [.ref 10] h (fun h' => h' = CH_10 h) := by
  refine Ct.of (fun _ _ _ => trivial) rfl (Nat.le_of_ble_eq_true rfl) ?_
  show AW (m_X9_init (d + 1) 1 256) 0 0 0 [(0, .ref 10)] [] h (kV _)
  refine aw_aload_n (i := 0) rfl d_X9_init_0 0 rfl ?_
  refine aw_objInit (rest := []) d_X9_init_1 tw_40 tw_33 tw_34 (show 1 ≤ d + 1 by omega) (show 0 + 12 ≤ 100 * (d + 1) by omega) ?_
  refine aw_aload_n (i := 0) rfl d_X9_init_4 0 rfl ?_
  refine aw_sipush (v := 256) d_X9_init_5 is_256 ?_
  refine aw_newa (t := 0) (atype := .int) 30 256 (by decide) rfl tw_51 (hn 30 (by decide) (by decide)) (by decide) xs0 (by decide) (by decide) (by decide) (Nat.le_of_ble_eq_true rfl) (Nat.le_of_ble_eq_true rfl) d_X9_init_8 ?_
  refine aw_putrF (k0 := 0) kc_9 (ss_n hs (by decide)) (Nat.le_of_ble_eq_true rfl) tw_42 d_X9_init_10 rfl rfl rfl rfl ?_
  have hs1 := ss_step (k := 30) (t := 0) (n := 256) (c' := 10) (s := 0) (r := some 30) hs (by decide)
  have hn2 := nn_step (k := 30) (t := 0) (n := 256) (c := 10) (s := 0) (r := some 30) hn
  refine aw_iconst (v := 0) d_X9_init_13 ic_0 ?_
  refine aw_istore_n (i := 1) rfl [(0, .ref 10), (1, .int 0)] d_X9_init_14 (Nat.le_of_ble_eq_true rfl) rfl rfl ?_
  refine lp_X9 d _ _ _ _ _ _ hs1 rfl rfl ?_
  exact aw_vret rfl d_X9_init_53 ⟨Nat.le_of_ble_eq_true rfl, Nat.le_of_ble_eq_true rfl⟩ ⟨rfl, rfl⟩
set_option maxRecDepth 100000 in
def CH_11 (h : Hp_) : Hp_ := h_rm (h_nw (h_rm (h_nw (h_rm (h_rm (h_nw h 31 0 160) 11 0 (some 31)) 11 4 (some 1000)) 32 0 150) 11 5 (some 32)) 33 0 164) 11 8 (some 33)
set_option maxRecDepth 100000 in
theorem k_X8_init_11 (d : Nat) (h : Hp_) (hs : h_sh h 11 = some (18, 10)) (hn : ∀ a, 31 ≤ a → a < 34 → h_sh h a = none) : Cv (m_X8_init (d + 1) 3 474) [.ref 11] h (fun h' => h' = CH_11 h) := by
  refine Ct.of (fun _ _ _ => trivial) rfl (Nat.le_of_ble_eq_true rfl) ?_
  show AW (m_X8_init (d + 1) 3 474) 0 0 0 [(0, .ref 11)] [] h (kV _)
  refine aw_aload_n (i := 0) rfl d_X8_init_0 0 rfl ?_
  refine aw_objInit (rest := []) d_X8_init_1 tw_57 tw_33 tw_34 (show 1 ≤ d + 1 by omega) (show 0 + 12 ≤ 100 * (d + 1) by omega) ?_
  refine aw_aload_n (i := 0) rfl d_X8_init_4 0 rfl ?_
  refine aw_sipush (v := 160) d_X8_init_5 is_160 ?_
  refine aw_newa (t := 0) (atype := .int) 31 160 (by decide) rfl tw_51 (hn 31 (by decide) (by decide)) (by decide) xs0 (by decide) (by decide) (by decide) (Nat.le_of_ble_eq_true rfl) (Nat.le_of_ble_eq_true rfl) d_X8_init_8 ?_
  refine aw_putrF (k0 := 0) kc_8 (ss_n hs (by decide)) (Nat.le_of_ble_eq_true rfl) tw_59 d_X8_init_10 rfl rfl rfl rfl ?_
  have hs1 := ss_step (k := 31) (t := 0) (n := 160) (c' := 11) (s := 0) (r := some 31) hs (by decide)
  have hn2 := nn_step (k := 31) (t := 0) (n := 160) (c := 11) (s := 0) (r := some 31) hn
  refine aw_aload_n (i := 0) rfl d_X8_init_13 0 rfl ?_
  refine aw_ldcT (row := 0) (n := 0) (q := 1000) d_X8_init_14 rfl rfl ?_
  refine aw_putr (k0 := 4) kc_8 hs1 (Nat.le_of_ble_eq_true rfl) tw_64 d_X8_init_16 rfl rfl ?_
  have hs3 : h_sh (h_rm (h_rm (h_nw h 31 0 160) 11 0 (some 31)) 11 4 (some 1000)) 11 = some (18, 10) := hs1
  have hn4 : ∀ a, 32 ≤ a → a < 34 → h_sh (h_rm (h_rm (h_nw h 31 0 160) 11 0 (some 31)) 11 4 (some 1000)) a = none := hn2
  refine aw_aload_n (i := 0) rfl d_X8_init_19 0 rfl ?_
  refine aw_sipush (v := 150) d_X8_init_20 is_150 ?_
  refine aw_newa (t := 0) (atype := .int) 32 150 (by decide) rfl tw_51 (hn4 32 (by decide) (by decide)) (by decide) xs0 (by decide) (by decide) (by decide) (Nat.le_of_ble_eq_true rfl) (Nat.le_of_ble_eq_true rfl) d_X8_init_23 ?_
  refine aw_putrF (k0 := 5) kc_8 (ss_n hs3 (by decide)) (Nat.le_of_ble_eq_true rfl) tw_65 d_X8_init_25 rfl rfl rfl rfl ?_
  have hs5 := ss_step (k := 32) (t := 0) (n := 150) (c' := 11) (s := 5) (r := some 32) hs3 (by decide)
  have hn6 := nn_step (k := 32) (t := 0) (n := 150) (c := 11) (s := 5) (r := some 32) hn4
  refine aw_aload_n (i := 0) rfl d_X8_init_28 0 rfl ?_
  refine aw_sipush (v := 164) d_X8_init_29 is_164 ?_
  refine aw_newa (t := 0) (atype := .int) 33 164 (by decide) rfl tw_51 (hn6 33 (by decide) (by decide)) (by decide) xs0 (by decide) (by decide) (by decide) (Nat.le_of_ble_eq_true rfl) (Nat.le_of_ble_eq_true rfl) d_X8_init_32 ?_
  refine aw_putrF (k0 := 8) kc_8 (ss_n hs5 (by decide)) (Nat.le_of_ble_eq_true rfl) tw_71 d_X8_init_34 rfl rfl rfl rfl ?_
  have hs7 := ss_step (k := 33) (t := 0) (n := 164) (c' := 11) (s := 8) (r := some 33) hs5 (by decide)
  have hn8 := nn_step (k := 33) (t := 0) (n := 164) (c := 11) (s := 8) (r := some 33) hn6
  exact aw_vret rfl d_X8_init_37 ⟨Nat.le_of_ble_eq_true rfl, Nat.le_of_ble_eq_true rfl⟩ ⟨rfl, rfl⟩
set_option maxRecDepth 100000 in
def CH_12 (h : Hp_) : Hp_ := h_rm (h_nw (h_rm (h_nw (h_rm (h_nw h 34 0 1800) 12 0 (some 34)) 35 0 12) 12 1 (some 35)) 36 0 12) 12 2 (some 36)
set_option maxRecDepth 100000 in
theorem k_X0_init_12 (d : Nat) (h : Hp_) (hs : h_sh h 12 = some (10, 4)) (hn : ∀ a, 34 ≤ a → a < 37 → h_sh h a = none) : Cv (m_X0_init (d + 1) 3 1824) [.ref 12] h (fun h' => h' = CH_12 h) := by
  refine Ct.of (fun _ _ _ => trivial) rfl (Nat.le_of_ble_eq_true rfl) ?_
  show AW (m_X0_init (d + 1) 3 1824) 0 0 0 [(0, .ref 12)] [] h (kV _)
  refine aw_aload_n (i := 0) rfl d_X0_init_0 0 rfl ?_
  refine aw_objInit (rest := []) d_X0_init_1 tw_102 tw_33 tw_34 (show 1 ≤ d + 1 by omega) (show 0 + 12 ≤ 100 * (d + 1) by omega) ?_
  refine aw_aload_n (i := 0) rfl d_X0_init_4 0 rfl ?_
  refine aw_sipush (v := 1800) d_X0_init_5 is_1800 ?_
  refine aw_newa (t := 0) (atype := .int) 34 1800 (by decide) rfl tw_51 (hn 34 (by decide) (by decide)) (by decide) xs0 (by decide) (by decide) (by decide) (Nat.le_of_ble_eq_true rfl) (Nat.le_of_ble_eq_true rfl) d_X0_init_8 ?_
  refine aw_putrF (k0 := 0) kc_0 (ss_n hs (by decide)) (Nat.le_of_ble_eq_true rfl) tw_103 d_X0_init_10 rfl rfl rfl rfl ?_
  have hs1 := ss_step (k := 34) (t := 0) (n := 1800) (c' := 12) (s := 0) (r := some 34) hs (by decide)
  have hn2 := nn_step (k := 34) (t := 0) (n := 1800) (c := 12) (s := 0) (r := some 34) hn
  refine aw_aload_n (i := 0) rfl d_X0_init_13 0 rfl ?_
  refine aw_bipush (v := 12) d_X0_init_14 ib_12 ?_
  refine aw_newa (t := 0) (atype := .int) 35 12 (by decide) rfl tw_51 (hn2 35 (by decide) (by decide)) (by decide) xs0 (by decide) (by decide) (by decide) (Nat.le_of_ble_eq_true rfl) (Nat.le_of_ble_eq_true rfl) d_X0_init_16 ?_
  refine aw_putrF (k0 := 1) kc_0 (ss_n hs1 (by decide)) (Nat.le_of_ble_eq_true rfl) tw_104 d_X0_init_18 rfl rfl rfl rfl ?_
  have hs3 := ss_step (k := 35) (t := 0) (n := 12) (c' := 12) (s := 1) (r := some 35) hs1 (by decide)
  have hn4 := nn_step (k := 35) (t := 0) (n := 12) (c := 12) (s := 1) (r := some 35) hn2
  refine aw_aload_n (i := 0) rfl d_X0_init_21 0 rfl ?_
  refine aw_bipush (v := 12) d_X0_init_22 ib_12 ?_
  refine aw_newa (t := 0) (atype := .int) 36 12 (by decide) rfl tw_51 (hn4 36 (by decide) (by decide)) (by decide) xs0 (by decide) (by decide) (by decide) (Nat.le_of_ble_eq_true rfl) (Nat.le_of_ble_eq_true rfl) d_X0_init_24 ?_
  refine aw_putrF (k0 := 2) kc_0 (ss_n hs3 (by decide)) (Nat.le_of_ble_eq_true rfl) tw_105 d_X0_init_26 rfl rfl rfl rfl ?_
  have hs5 := ss_step (k := 36) (t := 0) (n := 12) (c' := 12) (s := 2) (r := some 36) hs3 (by decide)
  have hn6 := nn_step (k := 36) (t := 0) (n := 12) (c := 12) (s := 2) (r := some 36) hn4
  exact aw_vret rfl d_X0_init_29 ⟨Nat.le_of_ble_eq_true rfl, Nat.le_of_ble_eq_true rfl⟩ ⟨rfl, rfl⟩
set_option maxRecDepth 100000 in
def CH_13 (h : Hp_) : Hp_ := h_rm (h_nw (h_rm (h_nw (h_rm (h_nw (h_rm (h_nw (h_rm (h_nw h 37 0 20) 13 0 (some 37)) 38 0 20) 13 1 (some 38)) 39 0 20) 13 2 (some 39)) 40 0 3280) 13 3 (some 40)) 41 0 164) 13 4 (some 41)
set_option maxRecDepth 100000 in
theorem k_X10_init_13 (d : Nat) (h : Hp_) (hs : h_sh h 13 = some (20, 6)) (hn : ∀ a, 37 ≤ a → a < 42 → h_sh h a = none) : Cv (m_X10_init (d + 1) 5 3504) [.ref 13] h (fun h' => h' = CH_13 h) := by
  refine Ct.of (fun _ _ _ => trivial) rfl (Nat.le_of_ble_eq_true rfl) ?_
  show AW (m_X10_init (d + 1) 5 3504) 0 0 0 [(0, .ref 13)] [] h (kV _)
  refine aw_aload_n (i := 0) rfl d_X10_init_0 0 rfl ?_
  refine aw_objInit (rest := []) d_X10_init_1 tw_123 tw_33 tw_34 (show 1 ≤ d + 1 by omega) (show 0 + 12 ≤ 100 * (d + 1) by omega) ?_
  refine aw_aload_n (i := 0) rfl d_X10_init_4 0 rfl ?_
  refine aw_bipush (v := 20) d_X10_init_5 ib_20 ?_
  refine aw_newa (t := 0) (atype := .int) 37 20 (by decide) rfl tw_51 (hn 37 (by decide) (by decide)) (by decide) xs0 (by decide) (by decide) (by decide) (Nat.le_of_ble_eq_true rfl) (Nat.le_of_ble_eq_true rfl) d_X10_init_7 ?_
  refine aw_putrF (k0 := 0) kc_10 (ss_n hs (by decide)) (Nat.le_of_ble_eq_true rfl) tw_124 d_X10_init_9 rfl rfl rfl rfl ?_
  have hs1 := ss_step (k := 37) (t := 0) (n := 20) (c' := 13) (s := 0) (r := some 37) hs (by decide)
  have hn2 := nn_step (k := 37) (t := 0) (n := 20) (c := 13) (s := 0) (r := some 37) hn
  refine aw_aload_n (i := 0) rfl d_X10_init_12 0 rfl ?_
  refine aw_bipush (v := 20) d_X10_init_13 ib_20 ?_
  refine aw_newa (t := 0) (atype := .int) 38 20 (by decide) rfl tw_51 (hn2 38 (by decide) (by decide)) (by decide) xs0 (by decide) (by decide) (by decide) (Nat.le_of_ble_eq_true rfl) (Nat.le_of_ble_eq_true rfl) d_X10_init_15 ?_
  refine aw_putrF (k0 := 1) kc_10 (ss_n hs1 (by decide)) (Nat.le_of_ble_eq_true rfl) tw_125 d_X10_init_17 rfl rfl rfl rfl ?_
  have hs3 := ss_step (k := 38) (t := 0) (n := 20) (c' := 13) (s := 1) (r := some 38) hs1 (by decide)
  have hn4 := nn_step (k := 38) (t := 0) (n := 20) (c := 13) (s := 1) (r := some 38) hn2
  refine aw_aload_n (i := 0) rfl d_X10_init_20 0 rfl ?_
  refine aw_bipush (v := 20) d_X10_init_21 ib_20 ?_
  refine aw_newa (t := 0) (atype := .int) 39 20 (by decide) rfl tw_51 (hn4 39 (by decide) (by decide)) (by decide) xs0 (by decide) (by decide) (by decide) (Nat.le_of_ble_eq_true rfl) (Nat.le_of_ble_eq_true rfl) d_X10_init_23 ?_
  refine aw_putrF (k0 := 2) kc_10 (ss_n hs3 (by decide)) (Nat.le_of_ble_eq_true rfl) tw_126 d_X10_init_25 rfl rfl rfl rfl ?_
  have hs5 := ss_step (k := 39) (t := 0) (n := 20) (c' := 13) (s := 2) (r := some 39) hs3 (by decide)
  have hn6 := nn_step (k := 39) (t := 0) (n := 20) (c := 13) (s := 2) (r := some 39) hn4
  refine aw_aload_n (i := 0) rfl d_X10_init_28 0 rfl ?_
  refine aw_sipush (v := 3280) d_X10_init_29 is_3280 ?_
  refine aw_newa (t := 0) (atype := .int) 40 3280 (by decide) rfl tw_51 (hn6 40 (by decide) (by decide)) (by decide) xs0 (by decide) (by decide) (by decide) (Nat.le_of_ble_eq_true rfl) (Nat.le_of_ble_eq_true rfl) d_X10_init_32 ?_
  refine aw_putrF (k0 := 3) kc_10 (ss_n hs5 (by decide)) (Nat.le_of_ble_eq_true rfl) tw_127 d_X10_init_34 rfl rfl rfl rfl ?_
  have hs7 := ss_step (k := 40) (t := 0) (n := 3280) (c' := 13) (s := 3) (r := some 40) hs5 (by decide)
  have hn8 := nn_step (k := 40) (t := 0) (n := 3280) (c := 13) (s := 3) (r := some 40) hn6
  refine aw_aload_n (i := 0) rfl d_X10_init_37 0 rfl ?_
  refine aw_sipush (v := 164) d_X10_init_38 is_164 ?_
  refine aw_newa (t := 0) (atype := .int) 41 164 (by decide) rfl tw_51 (hn8 41 (by decide) (by decide)) (by decide) xs0 (by decide) (by decide) (by decide) (Nat.le_of_ble_eq_true rfl) (Nat.le_of_ble_eq_true rfl) d_X10_init_41 ?_
  refine aw_putrF (k0 := 4) kc_10 (ss_n hs7 (by decide)) (Nat.le_of_ble_eq_true rfl) tw_128 d_X10_init_43 rfl rfl rfl rfl ?_
  have hs9 := ss_step (k := 41) (t := 0) (n := 164) (c' := 13) (s := 4) (r := some 41) hs7 (by decide)
  have hn10 := nn_step (k := 41) (t := 0) (n := 164) (c := 13) (s := 4) (r := some 41) hn8
  exact aw_vret rfl d_X10_init_46 ⟨Nat.le_of_ble_eq_true rfl, Nat.le_of_ble_eq_true rfl⟩ ⟨rfl, rfl⟩
set_option maxRecDepth 100000 in
def CH_14 (h : Hp_) : Hp_ := h_rm (h_nw (h_rm (h_nw (h_rm (h_nw (h_rm (h_nw (h_rm (h_nw h 42 0 20) 14 0 (some 42)) 43 0 20) 14 1 (some 43)) 44 0 20) 14 2 (some 44)) 45 0 3280) 14 3 (some 45)) 46 0 164) 14 4 (some 46)
set_option maxRecDepth 100000 in
theorem k_X10_init_14 (d : Nat) (h : Hp_) (hs : h_sh h 14 = some (20, 6)) (hn : ∀ a, 42 ≤ a → a < 47 → h_sh h a = none) : Cv (m_X10_init (d + 1) 5 3504) [.ref 14] h (fun h' => h' = CH_14 h) := by
  refine Ct.of (fun _ _ _ => trivial) rfl (Nat.le_of_ble_eq_true rfl) ?_
  show AW (m_X10_init (d + 1) 5 3504) 0 0 0 [(0, .ref 14)] [] h (kV _)
  refine aw_aload_n (i := 0) rfl d_X10_init_0 0 rfl ?_
  refine aw_objInit (rest := []) d_X10_init_1 tw_123 tw_33 tw_34 (show 1 ≤ d + 1 by omega) (show 0 + 12 ≤ 100 * (d + 1) by omega) ?_
  refine aw_aload_n (i := 0) rfl d_X10_init_4 0 rfl ?_
  refine aw_bipush (v := 20) d_X10_init_5 ib_20 ?_
  refine aw_newa (t := 0) (atype := .int) 42 20 (by decide) rfl tw_51 (hn 42 (by decide) (by decide)) (by decide) xs0 (by decide) (by decide) (by decide) (Nat.le_of_ble_eq_true rfl) (Nat.le_of_ble_eq_true rfl) d_X10_init_7 ?_
  refine aw_putrF (k0 := 0) kc_10 (ss_n hs (by decide)) (Nat.le_of_ble_eq_true rfl) tw_124 d_X10_init_9 rfl rfl rfl rfl ?_
  have hs1 := ss_step (k := 42) (t := 0) (n := 20) (c' := 14) (s := 0) (r := some 42) hs (by decide)
  have hn2 := nn_step (k := 42) (t := 0) (n := 20) (c := 14) (s := 0) (r := some 42) hn
  refine aw_aload_n (i := 0) rfl d_X10_init_12 0 rfl ?_
  refine aw_bipush (v := 20) d_X10_init_13 ib_20 ?_
  refine aw_newa (t := 0) (atype := .int) 43 20 (by decide) rfl tw_51 (hn2 43 (by decide) (by decide)) (by decide) xs0 (by decide) (by decide) (by decide) (Nat.le_of_ble_eq_true rfl) (Nat.le_of_ble_eq_true rfl) d_X10_init_15 ?_
  refine aw_putrF (k0 := 1) kc_10 (ss_n hs1 (by decide)) (Nat.le_of_ble_eq_true rfl) tw_125 d_X10_init_17 rfl rfl rfl rfl ?_
  have hs3 := ss_step (k := 43) (t := 0) (n := 20) (c' := 14) (s := 1) (r := some 43) hs1 (by decide)
  have hn4 := nn_step (k := 43) (t := 0) (n := 20) (c := 14) (s := 1) (r := some 43) hn2
  refine aw_aload_n (i := 0) rfl d_X10_init_20 0 rfl ?_
  refine aw_bipush (v := 20) d_X10_init_21 ib_20 ?_
  refine aw_newa (t := 0) (atype := .int) 44 20 (by decide) rfl tw_51 (hn4 44 (by decide) (by decide)) (by decide) xs0 (by decide) (by decide) (by decide) (Nat.le_of_ble_eq_true rfl) (Nat.le_of_ble_eq_true rfl) d_X10_init_23 ?_
  refine aw_putrF (k0 := 2) kc_10 (ss_n hs3 (by decide)) (Nat.le_of_ble_eq_true rfl) tw_126 d_X10_init_25 rfl rfl rfl rfl ?_
  have hs5 := ss_step (k := 44) (t := 0) (n := 20) (c' := 14) (s := 2) (r := some 44) hs3 (by decide)
  have hn6 := nn_step (k := 44) (t := 0) (n := 20) (c := 14) (s := 2) (r := some 44) hn4
  refine aw_aload_n (i := 0) rfl d_X10_init_28 0 rfl ?_
  refine aw_sipush (v := 3280) d_X10_init_29 is_3280 ?_
  refine aw_newa (t := 0) (atype := .int) 45 3280 (by decide) rfl tw_51 (hn6 45 (by decide) (by decide)) (by decide) xs0 (by decide) (by decide) (by decide) (Nat.le_of_ble_eq_true rfl) (Nat.le_of_ble_eq_true rfl) d_X10_init_32 ?_
  refine aw_putrF (k0 := 3) kc_10 (ss_n hs5 (by decide)) (Nat.le_of_ble_eq_true rfl) tw_127 d_X10_init_34 rfl rfl rfl rfl ?_
  have hs7 := ss_step (k := 45) (t := 0) (n := 3280) (c' := 14) (s := 3) (r := some 45) hs5 (by decide)
  have hn8 := nn_step (k := 45) (t := 0) (n := 3280) (c := 14) (s := 3) (r := some 45) hn6
  refine aw_aload_n (i := 0) rfl d_X10_init_37 0 rfl ?_
  refine aw_sipush (v := 164) d_X10_init_38 is_164 ?_
  refine aw_newa (t := 0) (atype := .int) 46 164 (by decide) rfl tw_51 (hn8 46 (by decide) (by decide)) (by decide) xs0 (by decide) (by decide) (by decide) (Nat.le_of_ble_eq_true rfl) (Nat.le_of_ble_eq_true rfl) d_X10_init_41 ?_
  refine aw_putrF (k0 := 4) kc_10 (ss_n hs7 (by decide)) (Nat.le_of_ble_eq_true rfl) tw_128 d_X10_init_43 rfl rfl rfl rfl ?_
  have hs9 := ss_step (k := 46) (t := 0) (n := 164) (c' := 14) (s := 4) (r := some 46) hs7 (by decide)
  have hn10 := nn_step (k := 46) (t := 0) (n := 164) (c := 14) (s := 4) (r := some 46) hn8
  exact aw_vret rfl d_X10_init_46 ⟨Nat.le_of_ble_eq_true rfl, Nat.le_of_ble_eq_true rfl⟩ ⟨rfl, rfl⟩
set_option maxRecDepth 100000 in
def CH_16 (h : Hp_) : Hp_ := h_rm (h_nw (h_rm (h_nw (h_rm (h_nw (h_rm (h_nw (h_rm (h_nw (h_rm (h_nw (h_rm (h_nw (h_rm (h_nw (h_rm (h_nw (h_rm (h_nw h 47 0 400) 16 0 (some 47)) 48 0 400) 16 1 (some 48)) 49 0 400) 16 2 (some 49)) 50 0 400) 16 3 (some 50)) 51 0 400) 16 4 (some 51)) 52 0 400) 16 5 (some 52)) 53 0 400) 16 6 (some 53)) 54 0 200) 16 8 (some 54)) 55 0 200) 16 9 (some 55)) 56 0 200) 16 10 (some 56)
set_option maxRecDepth 100000 in
theorem k_X7_init_16 (d : Nat) (h : Hp_) (hs : h_sh h 16 = some (17, 12)) (hn : ∀ a, 47 ≤ a → a < 57 → h_sh h a = none) : Cv (m_X7_init (d + 1) 10 3400) [.ref 16] h (fun h' => h' = CH_16 h) := by
  refine Ct.of (fun _ _ _ => trivial) rfl (Nat.le_of_ble_eq_true rfl) ?_
  show AW (m_X7_init (d + 1) 10 3400) 0 0 0 [(0, .ref 16)] [] h (kV _)
  refine aw_aload_n (i := 0) rfl d_X7_init_0 0 rfl ?_
  refine aw_objInit (rest := []) d_X7_init_1 tw_151 tw_33 tw_34 (show 1 ≤ d + 1 by omega) (show 0 + 12 ≤ 100 * (d + 1) by omega) ?_
  refine aw_aload_n (i := 0) rfl d_X7_init_4 0 rfl ?_
  refine aw_sipush (v := 400) d_X7_init_5 is_400 ?_
  refine aw_newa (t := 0) (atype := .int) 47 400 (by decide) rfl tw_51 (hn 47 (by decide) (by decide)) (by decide) xs0 (by decide) (by decide) (by decide) (Nat.le_of_ble_eq_true rfl) (Nat.le_of_ble_eq_true rfl) d_X7_init_8 ?_
  refine aw_putrF (k0 := 0) kc_7 (ss_n hs (by decide)) (Nat.le_of_ble_eq_true rfl) tw_152 d_X7_init_10 rfl rfl rfl rfl ?_
  have hs1 := ss_step (k := 47) (t := 0) (n := 400) (c' := 16) (s := 0) (r := some 47) hs (by decide)
  have hn2 := nn_step (k := 47) (t := 0) (n := 400) (c := 16) (s := 0) (r := some 47) hn
  refine aw_aload_n (i := 0) rfl d_X7_init_13 0 rfl ?_
  refine aw_sipush (v := 400) d_X7_init_14 is_400 ?_
  refine aw_newa (t := 0) (atype := .int) 48 400 (by decide) rfl tw_51 (hn2 48 (by decide) (by decide)) (by decide) xs0 (by decide) (by decide) (by decide) (Nat.le_of_ble_eq_true rfl) (Nat.le_of_ble_eq_true rfl) d_X7_init_17 ?_
  refine aw_putrF (k0 := 1) kc_7 (ss_n hs1 (by decide)) (Nat.le_of_ble_eq_true rfl) tw_153 d_X7_init_19 rfl rfl rfl rfl ?_
  have hs3 := ss_step (k := 48) (t := 0) (n := 400) (c' := 16) (s := 1) (r := some 48) hs1 (by decide)
  have hn4 := nn_step (k := 48) (t := 0) (n := 400) (c := 16) (s := 1) (r := some 48) hn2
  refine aw_aload_n (i := 0) rfl d_X7_init_22 0 rfl ?_
  refine aw_sipush (v := 400) d_X7_init_23 is_400 ?_
  refine aw_newa (t := 0) (atype := .int) 49 400 (by decide) rfl tw_51 (hn4 49 (by decide) (by decide)) (by decide) xs0 (by decide) (by decide) (by decide) (Nat.le_of_ble_eq_true rfl) (Nat.le_of_ble_eq_true rfl) d_X7_init_26 ?_
  refine aw_putrF (k0 := 2) kc_7 (ss_n hs3 (by decide)) (Nat.le_of_ble_eq_true rfl) tw_154 d_X7_init_28 rfl rfl rfl rfl ?_
  have hs5 := ss_step (k := 49) (t := 0) (n := 400) (c' := 16) (s := 2) (r := some 49) hs3 (by decide)
  have hn6 := nn_step (k := 49) (t := 0) (n := 400) (c := 16) (s := 2) (r := some 49) hn4
  refine aw_aload_n (i := 0) rfl d_X7_init_31 0 rfl ?_
  refine aw_sipush (v := 400) d_X7_init_32 is_400 ?_
  refine aw_newa (t := 0) (atype := .int) 50 400 (by decide) rfl tw_51 (hn6 50 (by decide) (by decide)) (by decide) xs0 (by decide) (by decide) (by decide) (Nat.le_of_ble_eq_true rfl) (Nat.le_of_ble_eq_true rfl) d_X7_init_35 ?_
  refine aw_putrF (k0 := 3) kc_7 (ss_n hs5 (by decide)) (Nat.le_of_ble_eq_true rfl) tw_155 d_X7_init_37 rfl rfl rfl rfl ?_
  have hs7 := ss_step (k := 50) (t := 0) (n := 400) (c' := 16) (s := 3) (r := some 50) hs5 (by decide)
  have hn8 := nn_step (k := 50) (t := 0) (n := 400) (c := 16) (s := 3) (r := some 50) hn6
  refine aw_aload_n (i := 0) rfl d_X7_init_40 0 rfl ?_
  refine aw_sipush (v := 400) d_X7_init_41 is_400 ?_
  refine aw_newa (t := 0) (atype := .int) 51 400 (by decide) rfl tw_51 (hn8 51 (by decide) (by decide)) (by decide) xs0 (by decide) (by decide) (by decide) (Nat.le_of_ble_eq_true rfl) (Nat.le_of_ble_eq_true rfl) d_X7_init_44 ?_
  refine aw_putrF (k0 := 4) kc_7 (ss_n hs7 (by decide)) (Nat.le_of_ble_eq_true rfl) tw_156 d_X7_init_46 rfl rfl rfl rfl ?_
  have hs9 := ss_step (k := 51) (t := 0) (n := 400) (c' := 16) (s := 4) (r := some 51) hs7 (by decide)
  have hn10 := nn_step (k := 51) (t := 0) (n := 400) (c := 16) (s := 4) (r := some 51) hn8
  refine aw_aload_n (i := 0) rfl d_X7_init_49 0 rfl ?_
  refine aw_sipush (v := 400) d_X7_init_50 is_400 ?_
  refine aw_newa (t := 0) (atype := .int) 52 400 (by decide) rfl tw_51 (hn10 52 (by decide) (by decide)) (by decide) xs0 (by decide) (by decide) (by decide) (Nat.le_of_ble_eq_true rfl) (Nat.le_of_ble_eq_true rfl) d_X7_init_53 ?_
  refine aw_putrF (k0 := 5) kc_7 (ss_n hs9 (by decide)) (Nat.le_of_ble_eq_true rfl) tw_157 d_X7_init_55 rfl rfl rfl rfl ?_
  have hs11 := ss_step (k := 52) (t := 0) (n := 400) (c' := 16) (s := 5) (r := some 52) hs9 (by decide)
  have hn12 := nn_step (k := 52) (t := 0) (n := 400) (c := 16) (s := 5) (r := some 52) hn10
  refine aw_aload_n (i := 0) rfl d_X7_init_58 0 rfl ?_
  refine aw_sipush (v := 400) d_X7_init_59 is_400 ?_
  refine aw_newa (t := 0) (atype := .int) 53 400 (by decide) rfl tw_51 (hn12 53 (by decide) (by decide)) (by decide) xs0 (by decide) (by decide) (by decide) (Nat.le_of_ble_eq_true rfl) (Nat.le_of_ble_eq_true rfl) d_X7_init_62 ?_
  refine aw_putrF (k0 := 6) kc_7 (ss_n hs11 (by decide)) (Nat.le_of_ble_eq_true rfl) tw_158 d_X7_init_64 rfl rfl rfl rfl ?_
  have hs13 := ss_step (k := 53) (t := 0) (n := 400) (c' := 16) (s := 6) (r := some 53) hs11 (by decide)
  have hn14 := nn_step (k := 53) (t := 0) (n := 400) (c := 16) (s := 6) (r := some 53) hn12
  refine aw_aload_n (i := 0) rfl d_X7_init_67 0 rfl ?_
  refine aw_sipush (v := 200) d_X7_init_68 is_200 ?_
  refine aw_newa (t := 0) (atype := .int) 54 200 (by decide) rfl tw_51 (hn14 54 (by decide) (by decide)) (by decide) xs0 (by decide) (by decide) (by decide) (Nat.le_of_ble_eq_true rfl) (Nat.le_of_ble_eq_true rfl) d_X7_init_71 ?_
  refine aw_putrF (k0 := 8) kc_7 (ss_n hs13 (by decide)) (Nat.le_of_ble_eq_true rfl) tw_161 d_X7_init_73 rfl rfl rfl rfl ?_
  have hs15 := ss_step (k := 54) (t := 0) (n := 200) (c' := 16) (s := 8) (r := some 54) hs13 (by decide)
  have hn16 := nn_step (k := 54) (t := 0) (n := 200) (c := 16) (s := 8) (r := some 54) hn14
  refine aw_aload_n (i := 0) rfl d_X7_init_76 0 rfl ?_
  refine aw_sipush (v := 200) d_X7_init_77 is_200 ?_
  refine aw_newa (t := 0) (atype := .int) 55 200 (by decide) rfl tw_51 (hn16 55 (by decide) (by decide)) (by decide) xs0 (by decide) (by decide) (by decide) (Nat.le_of_ble_eq_true rfl) (Nat.le_of_ble_eq_true rfl) d_X7_init_80 ?_
  refine aw_putrF (k0 := 9) kc_7 (ss_n hs15 (by decide)) (Nat.le_of_ble_eq_true rfl) tw_162 d_X7_init_82 rfl rfl rfl rfl ?_
  have hs17 := ss_step (k := 55) (t := 0) (n := 200) (c' := 16) (s := 9) (r := some 55) hs15 (by decide)
  have hn18 := nn_step (k := 55) (t := 0) (n := 200) (c := 16) (s := 9) (r := some 55) hn16
  refine aw_aload_n (i := 0) rfl d_X7_init_85 0 rfl ?_
  refine aw_sipush (v := 200) d_X7_init_86 is_200 ?_
  refine aw_newa (t := 0) (atype := .int) 56 200 (by decide) rfl tw_51 (hn18 56 (by decide) (by decide)) (by decide) xs0 (by decide) (by decide) (by decide) (Nat.le_of_ble_eq_true rfl) (Nat.le_of_ble_eq_true rfl) d_X7_init_89 ?_
  refine aw_putrF (k0 := 10) kc_7 (ss_n hs17 (by decide)) (Nat.le_of_ble_eq_true rfl) tw_163 d_X7_init_91 rfl rfl rfl rfl ?_
  have hs19 := ss_step (k := 56) (t := 0) (n := 200) (c' := 16) (s := 10) (r := some 56) hs17 (by decide)
  have hn20 := nn_step (k := 56) (t := 0) (n := 200) (c := 16) (s := 10) (r := some 56) hn18
  exact aw_vret rfl d_X7_init_94 ⟨Nat.le_of_ble_eq_true rfl, Nat.le_of_ble_eq_true rfl⟩ ⟨rfl, rfl⟩
set_option maxRecDepth 100000 in
def CH_17 (h : Hp_) : Hp_ := h_rm (h_nw (h_rm (h_nw (h_rm (h_nw (h_rm (h_nw (h_rm (h_nw (h_rm (h_nw (h_rm (h_nw (h_rm (h_nw (h_rm (h_nw (h_rm (h_nw (h_rm (h_nw (h_rm (h_nw (h_rm (h_nw (h_rm (h_nw h 57 0 80) 17 0 (some 57)) 58 0 80) 17 1 (some 58)) 59 0 80) 17 2 (some 59)) 60 0 80) 17 3 (some 60)) 61 0 80) 17 4 (some 61)) 62 0 80) 17 5 (some 62)) 63 1 80) 17 6 (some 63)) 64 0 300) 17 9 (some 64)) 65 0 300) 17 10 (some 65)) 66 0 300) 17 11 (some 66)) 67 0 300) 17 12 (some 67)) 68 0 300) 17 13 (some 68)) 69 0 300) 17 14 (some 69)) 70 0 2700) 17 15 (some 70)
set_option maxRecDepth 100000 in
theorem k_X4_init_17 (d : Nat) (h : Hp_) (hs : h_sh h 17 = some (14, 17)) (hn : ∀ a, 57 ≤ a → a < 71 → h_sh h a = none) : Cv (m_X4_init (d + 1) 14 5060) [.ref 17] h (fun h' => h' = CH_17 h) := by
  refine Ct.of (fun _ _ _ => trivial) rfl (Nat.le_of_ble_eq_true rfl) ?_
  show AW (m_X4_init (d + 1) 14 5060) 0 0 0 [(0, .ref 17)] [] h (kV _)
  refine aw_aload_n (i := 0) rfl d_X4_init_0 0 rfl ?_
  refine aw_objInit (rest := []) d_X4_init_1 tw_195 tw_33 tw_34 (show 1 ≤ d + 1 by omega) (show 0 + 12 ≤ 100 * (d + 1) by omega) ?_
  refine aw_aload_n (i := 0) rfl d_X4_init_4 0 rfl ?_
  refine aw_bipush (v := 80) d_X4_init_5 ib_80 ?_
  refine aw_newa (t := 0) (atype := .int) 57 80 (by decide) rfl tw_51 (hn 57 (by decide) (by decide)) (by decide) xs0 (by decide) (by decide) (by decide) (Nat.le_of_ble_eq_true rfl) (Nat.le_of_ble_eq_true rfl) d_X4_init_7 ?_
  refine aw_putrF (k0 := 0) kc_4 (ss_n hs (by decide)) (Nat.le_of_ble_eq_true rfl) tw_196 d_X4_init_9 rfl rfl rfl rfl ?_
  have hs1 := ss_step (k := 57) (t := 0) (n := 80) (c' := 17) (s := 0) (r := some 57) hs (by decide)
  have hn2 := nn_step (k := 57) (t := 0) (n := 80) (c := 17) (s := 0) (r := some 57) hn
  refine aw_aload_n (i := 0) rfl d_X4_init_12 0 rfl ?_
  refine aw_bipush (v := 80) d_X4_init_13 ib_80 ?_
  refine aw_newa (t := 0) (atype := .int) 58 80 (by decide) rfl tw_51 (hn2 58 (by decide) (by decide)) (by decide) xs0 (by decide) (by decide) (by decide) (Nat.le_of_ble_eq_true rfl) (Nat.le_of_ble_eq_true rfl) d_X4_init_15 ?_
  refine aw_putrF (k0 := 1) kc_4 (ss_n hs1 (by decide)) (Nat.le_of_ble_eq_true rfl) tw_197 d_X4_init_17 rfl rfl rfl rfl ?_
  have hs3 := ss_step (k := 58) (t := 0) (n := 80) (c' := 17) (s := 1) (r := some 58) hs1 (by decide)
  have hn4 := nn_step (k := 58) (t := 0) (n := 80) (c := 17) (s := 1) (r := some 58) hn2
  refine aw_aload_n (i := 0) rfl d_X4_init_20 0 rfl ?_
  refine aw_bipush (v := 80) d_X4_init_21 ib_80 ?_
  refine aw_newa (t := 0) (atype := .int) 59 80 (by decide) rfl tw_51 (hn4 59 (by decide) (by decide)) (by decide) xs0 (by decide) (by decide) (by decide) (Nat.le_of_ble_eq_true rfl) (Nat.le_of_ble_eq_true rfl) d_X4_init_23 ?_
  refine aw_putrF (k0 := 2) kc_4 (ss_n hs3 (by decide)) (Nat.le_of_ble_eq_true rfl) tw_198 d_X4_init_25 rfl rfl rfl rfl ?_
  have hs5 := ss_step (k := 59) (t := 0) (n := 80) (c' := 17) (s := 2) (r := some 59) hs3 (by decide)
  have hn6 := nn_step (k := 59) (t := 0) (n := 80) (c := 17) (s := 2) (r := some 59) hn4
  refine aw_aload_n (i := 0) rfl d_X4_init_28 0 rfl ?_
  refine aw_bipush (v := 80) d_X4_init_29 ib_80 ?_
  refine aw_newa (t := 0) (atype := .int) 60 80 (by decide) rfl tw_51 (hn6 60 (by decide) (by decide)) (by decide) xs0 (by decide) (by decide) (by decide) (Nat.le_of_ble_eq_true rfl) (Nat.le_of_ble_eq_true rfl) d_X4_init_31 ?_
  refine aw_putrF (k0 := 3) kc_4 (ss_n hs5 (by decide)) (Nat.le_of_ble_eq_true rfl) tw_199 d_X4_init_33 rfl rfl rfl rfl ?_
  have hs7 := ss_step (k := 60) (t := 0) (n := 80) (c' := 17) (s := 3) (r := some 60) hs5 (by decide)
  have hn8 := nn_step (k := 60) (t := 0) (n := 80) (c := 17) (s := 3) (r := some 60) hn6
  refine aw_aload_n (i := 0) rfl d_X4_init_36 0 rfl ?_
  refine aw_bipush (v := 80) d_X4_init_37 ib_80 ?_
  refine aw_newa (t := 0) (atype := .int) 61 80 (by decide) rfl tw_51 (hn8 61 (by decide) (by decide)) (by decide) xs0 (by decide) (by decide) (by decide) (Nat.le_of_ble_eq_true rfl) (Nat.le_of_ble_eq_true rfl) d_X4_init_39 ?_
  refine aw_putrF (k0 := 4) kc_4 (ss_n hs7 (by decide)) (Nat.le_of_ble_eq_true rfl) tw_200 d_X4_init_41 rfl rfl rfl rfl ?_
  have hs9 := ss_step (k := 61) (t := 0) (n := 80) (c' := 17) (s := 4) (r := some 61) hs7 (by decide)
  have hn10 := nn_step (k := 61) (t := 0) (n := 80) (c := 17) (s := 4) (r := some 61) hn8
  refine aw_aload_n (i := 0) rfl d_X4_init_44 0 rfl ?_
  refine aw_bipush (v := 80) d_X4_init_45 ib_80 ?_
  refine aw_newa (t := 0) (atype := .int) 62 80 (by decide) rfl tw_51 (hn10 62 (by decide) (by decide)) (by decide) xs0 (by decide) (by decide) (by decide) (Nat.le_of_ble_eq_true rfl) (Nat.le_of_ble_eq_true rfl) d_X4_init_47 ?_
  refine aw_putrF (k0 := 5) kc_4 (ss_n hs9 (by decide)) (Nat.le_of_ble_eq_true rfl) tw_201 d_X4_init_49 rfl rfl rfl rfl ?_
  have hs11 := ss_step (k := 62) (t := 0) (n := 80) (c' := 17) (s := 5) (r := some 62) hs9 (by decide)
  have hn12 := nn_step (k := 62) (t := 0) (n := 80) (c := 17) (s := 5) (r := some 62) hn10
  refine aw_aload_n (i := 0) rfl d_X4_init_52 0 rfl ?_
  refine aw_bipush (v := 80) d_X4_init_53 ib_80 ?_
  refine aw_newa (t := 1) (atype := .boolean) 63 80 (by decide) rfl tw_252 (hn12 63 (by decide) (by decide)) (by decide) xs0 (by decide) (by decide) (by decide) (Nat.le_of_ble_eq_true rfl) (Nat.le_of_ble_eq_true rfl) d_X4_init_55 ?_
  refine aw_putrF (k0 := 6) kc_4 (ss_n hs11 (by decide)) (Nat.le_of_ble_eq_true rfl) tw_202 d_X4_init_57 rfl rfl rfl rfl ?_
  have hs13 := ss_step (k := 63) (t := 1) (n := 80) (c' := 17) (s := 6) (r := some 63) hs11 (by decide)
  have hn14 := nn_step (k := 63) (t := 1) (n := 80) (c := 17) (s := 6) (r := some 63) hn12
  refine aw_aload_n (i := 0) rfl d_X4_init_60 0 rfl ?_
  refine aw_sipush (v := 300) d_X4_init_61 is_300 ?_
  refine aw_newa (t := 0) (atype := .int) 64 300 (by decide) rfl tw_51 (hn14 64 (by decide) (by decide)) (by decide) xs0 (by decide) (by decide) (by decide) (Nat.le_of_ble_eq_true rfl) (Nat.le_of_ble_eq_true rfl) d_X4_init_64 ?_
  refine aw_putrF (k0 := 9) kc_4 (ss_n hs13 (by decide)) (Nat.le_of_ble_eq_true rfl) tw_207 d_X4_init_66 rfl rfl rfl rfl ?_
  have hs15 := ss_step (k := 64) (t := 0) (n := 300) (c' := 17) (s := 9) (r := some 64) hs13 (by decide)
  have hn16 := nn_step (k := 64) (t := 0) (n := 300) (c := 17) (s := 9) (r := some 64) hn14
  refine aw_aload_n (i := 0) rfl d_X4_init_69 0 rfl ?_
  refine aw_sipush (v := 300) d_X4_init_70 is_300 ?_
  refine aw_newa (t := 0) (atype := .int) 65 300 (by decide) rfl tw_51 (hn16 65 (by decide) (by decide)) (by decide) xs0 (by decide) (by decide) (by decide) (Nat.le_of_ble_eq_true rfl) (Nat.le_of_ble_eq_true rfl) d_X4_init_73 ?_
  refine aw_putrF (k0 := 10) kc_4 (ss_n hs15 (by decide)) (Nat.le_of_ble_eq_true rfl) tw_208 d_X4_init_75 rfl rfl rfl rfl ?_
  have hs17 := ss_step (k := 65) (t := 0) (n := 300) (c' := 17) (s := 10) (r := some 65) hs15 (by decide)
  have hn18 := nn_step (k := 65) (t := 0) (n := 300) (c := 17) (s := 10) (r := some 65) hn16
  refine aw_aload_n (i := 0) rfl d_X4_init_78 0 rfl ?_
  refine aw_sipush (v := 300) d_X4_init_79 is_300 ?_
  refine aw_newa (t := 0) (atype := .int) 66 300 (by decide) rfl tw_51 (hn18 66 (by decide) (by decide)) (by decide) xs0 (by decide) (by decide) (by decide) (Nat.le_of_ble_eq_true rfl) (Nat.le_of_ble_eq_true rfl) d_X4_init_82 ?_
  refine aw_putrF (k0 := 11) kc_4 (ss_n hs17 (by decide)) (Nat.le_of_ble_eq_true rfl) tw_209 d_X4_init_84 rfl rfl rfl rfl ?_
  have hs19 := ss_step (k := 66) (t := 0) (n := 300) (c' := 17) (s := 11) (r := some 66) hs17 (by decide)
  have hn20 := nn_step (k := 66) (t := 0) (n := 300) (c := 17) (s := 11) (r := some 66) hn18
  refine aw_aload_n (i := 0) rfl d_X4_init_87 0 rfl ?_
  refine aw_sipush (v := 300) d_X4_init_88 is_300 ?_
  refine aw_newa (t := 0) (atype := .int) 67 300 (by decide) rfl tw_51 (hn20 67 (by decide) (by decide)) (by decide) xs0 (by decide) (by decide) (by decide) (Nat.le_of_ble_eq_true rfl) (Nat.le_of_ble_eq_true rfl) d_X4_init_91 ?_
  refine aw_putrF (k0 := 12) kc_4 (ss_n hs19 (by decide)) (Nat.le_of_ble_eq_true rfl) tw_210 d_X4_init_93 rfl rfl rfl rfl ?_
  have hs21 := ss_step (k := 67) (t := 0) (n := 300) (c' := 17) (s := 12) (r := some 67) hs19 (by decide)
  have hn22 := nn_step (k := 67) (t := 0) (n := 300) (c := 17) (s := 12) (r := some 67) hn20
  refine aw_aload_n (i := 0) rfl d_X4_init_96 0 rfl ?_
  refine aw_sipush (v := 300) d_X4_init_97 is_300 ?_
  refine aw_newa (t := 0) (atype := .int) 68 300 (by decide) rfl tw_51 (hn22 68 (by decide) (by decide)) (by decide) xs0 (by decide) (by decide) (by decide) (Nat.le_of_ble_eq_true rfl) (Nat.le_of_ble_eq_true rfl) d_X4_init_100 ?_
  refine aw_putrF (k0 := 13) kc_4 (ss_n hs21 (by decide)) (Nat.le_of_ble_eq_true rfl) tw_211 d_X4_init_102 rfl rfl rfl rfl ?_
  have hs23 := ss_step (k := 68) (t := 0) (n := 300) (c' := 17) (s := 13) (r := some 68) hs21 (by decide)
  have hn24 := nn_step (k := 68) (t := 0) (n := 300) (c := 17) (s := 13) (r := some 68) hn22
  refine aw_aload_n (i := 0) rfl d_X4_init_105 0 rfl ?_
  refine aw_sipush (v := 300) d_X4_init_106 is_300 ?_
  refine aw_newa (t := 0) (atype := .int) 69 300 (by decide) rfl tw_51 (hn24 69 (by decide) (by decide)) (by decide) xs0 (by decide) (by decide) (by decide) (Nat.le_of_ble_eq_true rfl) (Nat.le_of_ble_eq_true rfl) d_X4_init_109 ?_
  refine aw_putrF (k0 := 14) kc_4 (ss_n hs23 (by decide)) (Nat.le_of_ble_eq_true rfl) tw_212 d_X4_init_111 rfl rfl rfl rfl ?_
  have hs25 := ss_step (k := 69) (t := 0) (n := 300) (c' := 17) (s := 14) (r := some 69) hs23 (by decide)
  have hn26 := nn_step (k := 69) (t := 0) (n := 300) (c := 17) (s := 14) (r := some 69) hn24
  refine aw_aload_n (i := 0) rfl d_X4_init_114 0 rfl ?_
  refine aw_sipush (v := 2700) d_X4_init_115 is_2700 ?_
  refine aw_newa (t := 0) (atype := .int) 70 2700 (by decide) rfl tw_51 (hn26 70 (by decide) (by decide)) (by decide) xs0 (by decide) (by decide) (by decide) (Nat.le_of_ble_eq_true rfl) (Nat.le_of_ble_eq_true rfl) d_X4_init_118 ?_
  refine aw_putrF (k0 := 15) kc_4 (ss_n hs25 (by decide)) (Nat.le_of_ble_eq_true rfl) tw_213 d_X4_init_120 rfl rfl rfl rfl ?_
  have hs27 := ss_step (k := 70) (t := 0) (n := 2700) (c' := 17) (s := 15) (r := some 70) hs25 (by decide)
  have hn28 := nn_step (k := 70) (t := 0) (n := 2700) (c := 17) (s := 15) (r := some 70) hn26
  exact aw_vret rfl d_X4_init_123 ⟨Nat.le_of_ble_eq_true rfl, Nat.le_of_ble_eq_true rfl⟩ ⟨rfl, rfl⟩
set_option maxRecDepth 100000 in
def CH_18 (h : Hp_) : Hp_ := h_iw (h_iw (h_rm (h_nw (h_rm (h_nw (h_rm (h_nw (h_rm (h_nw (h_rm (h_nw (h_rm (h_nw (h_rm (h_nw (h_rm (h_nw (h_rm (h_nw (h_rm (h_nw (h_rm (h_nw (h_rm (h_nw (h_rm (h_nw (h_rm (h_nw h 71 0 30) 18 0 (some 71)) 72 0 30) 18 1 (some 72)) 73 0 30) 18 2 (some 73)) 74 0 10) 18 4 (some 74)) 75 0 8) 18 5 (some 75)) 76 0 200) 18 6 (some 76)) 77 0 200) 18 7 (some 77)) 78 0 16) 18 9 (some 78)) 79 0 180) 18 10 (some 79)) 80 0 180) 18 11 (some 80)) 81 0 180) 18 12 (some 81)) 82 0 8) 18 13 (some 82)) 83 0 8) 18 14 (some 83)) 84 0 30) 18 15 (some 84)) 75 (fl_ (fun _ => 1) (h_i (h_rm (h_nw (h_rm (h_nw (h_rm (h_nw (h_rm (h_nw (h_rm (h_nw (h_rm (h_nw (h_rm (h_nw (h_rm (h_nw (h_rm (h_nw (h_rm (h_nw (h_rm (h_nw (h_rm (h_nw (h_rm (h_nw (h_rm (h_nw h 71 0 30) 18 0 (some 71)) 72 0 30) 18 1 (some 72)) 73 0 30) 18 2 (some 73)) 74 0 10) 18 4 (some 74)) 75 0 8) 18 5 (some 75)) 76 0 200) 18 6 (some 76)) 77 0 200) 18 7 (some 77)) 78 0 16) 18 9 (some 78)) 79 0 180) 18 10 (some 79)) 80 0 180) 18 11 (some 80)) 81 0 180) 18 12 (some 81)) 82 0 8) 18 13 (some 82)) 83 0 8) 18 14 (some 83)) 84 0 30) 18 15 (some 84)) 75) 8)) 78 (fl_ (fun _ => (-1)) (h_i (h_iw (h_rm (h_nw (h_rm (h_nw (h_rm (h_nw (h_rm (h_nw (h_rm (h_nw (h_rm (h_nw (h_rm (h_nw (h_rm (h_nw (h_rm (h_nw (h_rm (h_nw (h_rm (h_nw (h_rm (h_nw (h_rm (h_nw (h_rm (h_nw h 71 0 30) 18 0 (some 71)) 72 0 30) 18 1 (some 72)) 73 0 30) 18 2 (some 73)) 74 0 10) 18 4 (some 74)) 75 0 8) 18 5 (some 75)) 76 0 200) 18 6 (some 76)) 77 0 200) 18 7 (some 77)) 78 0 16) 18 9 (some 78)) 79 0 180) 18 10 (some 79)) 80 0 180) 18 11 (some 80)) 81 0 180) 18 12 (some 81)) 82 0 8) 18 13 (some 82)) 83 0 8) 18 14 (some 83)) 84 0 30) 18 15 (some 84)) 75 (fl_ (fun _ => 1) (h_i (h_rm (h_nw (h_rm (h_nw (h_rm (h_nw (h_rm (h_nw (h_rm (h_nw (h_rm (h_nw (h_rm (h_nw (h_rm (h_nw (h_rm (h_nw (h_rm (h_nw (h_rm (h_nw (h_rm (h_nw (h_rm (h_nw (h_rm (h_nw h 71 0 30) 18 0 (some 71)) 72 0 30) 18 1 (some 72)) 73 0 30) 18 2 (some 73)) 74 0 10) 18 4 (some 74)) 75 0 8) 18 5 (some 75)) 76 0 200) 18 6 (some 76)) 77 0 200) 18 7 (some 77)) 78 0 16) 18 9 (some 78)) 79 0 180) 18 10 (some 79)) 80 0 180) 18 11 (some 80)) 81 0 180) 18 12 (some 81)) 82 0 8) 18 13 (some 82)) 83 0 8) 18 14 (some 83)) 84 0 30) 18 15 (some 84)) 75) 8)) 78) 16)
set_option maxRecDepth 100000 in
theorem k_X1_init_18 (d : Nat) (h : Hp_) (hs : h_sh h 18 = some (11, 16)) (hn : ∀ a, 71 ≤ a → a < 85 → h_sh h a = none) : Cv (m_X1_init (d + 1) 14 1110) [.ref 18] h (fun h' => h' = CH_18 h) := by
  refine Ct.of (fun _ _ _ => trivial) rfl (Nat.le_of_ble_eq_true rfl) ?_
  show AW (m_X1_init (d + 1) 14 1110) 0 0 0 [(0, .ref 18)] [] h (kV _)
  refine aw_aload_n (i := 0) rfl d_X1_init_0 0 rfl ?_
  refine aw_objInit (rest := []) d_X1_init_1 tw_258 tw_33 tw_34 (show 1 ≤ d + 1 by omega) (show 0 + 12 ≤ 100 * (d + 1) by omega) ?_
  refine aw_aload_n (i := 0) rfl d_X1_init_4 0 rfl ?_
  refine aw_bipush (v := 30) d_X1_init_5 ib_30 ?_
  refine aw_newa (t := 0) (atype := .int) 71 30 (by decide) rfl tw_51 (hn 71 (by decide) (by decide)) (by decide) xs0 (by decide) (by decide) (by decide) (Nat.le_of_ble_eq_true rfl) (Nat.le_of_ble_eq_true rfl) d_X1_init_7 ?_
  refine aw_putrF (k0 := 0) kc_1 (ss_n hs (by decide)) (Nat.le_of_ble_eq_true rfl) tw_262 d_X1_init_9 rfl rfl rfl rfl ?_
  have hs1 := ss_step (k := 71) (t := 0) (n := 30) (c' := 18) (s := 0) (r := some 71) hs (by decide)
  have hn2 := nn_step (k := 71) (t := 0) (n := 30) (c := 18) (s := 0) (r := some 71) hn
  refine aw_aload_n (i := 0) rfl d_X1_init_12 0 rfl ?_
  refine aw_bipush (v := 30) d_X1_init_13 ib_30 ?_
  refine aw_newa (t := 0) (atype := .int) 72 30 (by decide) rfl tw_51 (hn2 72 (by decide) (by decide)) (by decide) xs0 (by decide) (by decide) (by decide) (Nat.le_of_ble_eq_true rfl) (Nat.le_of_ble_eq_true rfl) d_X1_init_15 ?_
  refine aw_putrF (k0 := 1) kc_1 (ss_n hs1 (by decide)) (Nat.le_of_ble_eq_true rfl) tw_263 d_X1_init_17 rfl rfl rfl rfl ?_
  have hs3 := ss_step (k := 72) (t := 0) (n := 30) (c' := 18) (s := 1) (r := some 72) hs1 (by decide)
  have hn4 := nn_step (k := 72) (t := 0) (n := 30) (c := 18) (s := 1) (r := some 72) hn2
  refine aw_aload_n (i := 0) rfl d_X1_init_20 0 rfl ?_
  refine aw_bipush (v := 30) d_X1_init_21 ib_30 ?_
  refine aw_newa (t := 0) (atype := .int) 73 30 (by decide) rfl tw_51 (hn4 73 (by decide) (by decide)) (by decide) xs0 (by decide) (by decide) (by decide) (Nat.le_of_ble_eq_true rfl) (Nat.le_of_ble_eq_true rfl) d_X1_init_23 ?_
  refine aw_putrF (k0 := 2) kc_1 (ss_n hs3 (by decide)) (Nat.le_of_ble_eq_true rfl) tw_264 d_X1_init_25 rfl rfl rfl rfl ?_
  have hs5 := ss_step (k := 73) (t := 0) (n := 30) (c' := 18) (s := 2) (r := some 73) hs3 (by decide)
  have hn6 := nn_step (k := 73) (t := 0) (n := 30) (c := 18) (s := 2) (r := some 73) hn4
  refine aw_aload_n (i := 0) rfl d_X1_init_28 0 rfl ?_
  refine aw_bipush (v := 10) d_X1_init_29 ib_10 ?_
  refine aw_newa (t := 0) (atype := .int) 74 10 (by decide) rfl tw_51 (hn6 74 (by decide) (by decide)) (by decide) xs0 (by decide) (by decide) (by decide) (Nat.le_of_ble_eq_true rfl) (Nat.le_of_ble_eq_true rfl) d_X1_init_31 ?_
  refine aw_putrF (k0 := 4) kc_1 (ss_n hs5 (by decide)) (Nat.le_of_ble_eq_true rfl) tw_267 d_X1_init_33 rfl rfl rfl rfl ?_
  have hs7 := ss_step (k := 74) (t := 0) (n := 10) (c' := 18) (s := 4) (r := some 74) hs5 (by decide)
  have hn8 := nn_step (k := 74) (t := 0) (n := 10) (c := 18) (s := 4) (r := some 74) hn6
  refine aw_aload_n (i := 0) rfl d_X1_init_36 0 rfl ?_
  refine aw_bipush (v := 8) d_X1_init_37 ib_8 ?_
  refine aw_newa (t := 0) (atype := .int) 75 8 (by decide) rfl tw_51 (hn8 75 (by decide) (by decide)) (by decide) xs0 (by decide) (by decide) (by decide) (Nat.le_of_ble_eq_true rfl) (Nat.le_of_ble_eq_true rfl) d_X1_init_39 ?_
  refine aw_putrF (k0 := 5) kc_1 (ss_n hs7 (by decide)) (Nat.le_of_ble_eq_true rfl) tw_269 d_X1_init_41 rfl rfl rfl rfl ?_
  have hs9 := ss_step (k := 75) (t := 0) (n := 8) (c' := 18) (s := 5) (r := some 75) hs7 (by decide)
  have hn10 := nn_step (k := 75) (t := 0) (n := 8) (c := 18) (s := 5) (r := some 75) hn8
  refine aw_aload_n (i := 0) rfl d_X1_init_44 0 rfl ?_
  refine aw_sipush (v := 200) d_X1_init_45 is_200 ?_
  refine aw_newa (t := 0) (atype := .int) 76 200 (by decide) rfl tw_51 (hn10 76 (by decide) (by decide)) (by decide) xs0 (by decide) (by decide) (by decide) (Nat.le_of_ble_eq_true rfl) (Nat.le_of_ble_eq_true rfl) d_X1_init_48 ?_
  refine aw_putrF (k0 := 6) kc_1 (ss_n hs9 (by decide)) (Nat.le_of_ble_eq_true rfl) tw_271 d_X1_init_50 rfl rfl rfl rfl ?_
  have hs11 := ss_step (k := 76) (t := 0) (n := 200) (c' := 18) (s := 6) (r := some 76) hs9 (by decide)
  have hn12 := nn_step (k := 76) (t := 0) (n := 200) (c := 18) (s := 6) (r := some 76) hn10
  refine aw_aload_n (i := 0) rfl d_X1_init_53 0 rfl ?_
  refine aw_sipush (v := 200) d_X1_init_54 is_200 ?_
  refine aw_newa (t := 0) (atype := .int) 77 200 (by decide) rfl tw_51 (hn12 77 (by decide) (by decide)) (by decide) xs0 (by decide) (by decide) (by decide) (Nat.le_of_ble_eq_true rfl) (Nat.le_of_ble_eq_true rfl) d_X1_init_57 ?_
  refine aw_putrF (k0 := 7) kc_1 (ss_n hs11 (by decide)) (Nat.le_of_ble_eq_true rfl) tw_272 d_X1_init_59 rfl rfl rfl rfl ?_
  have hs13 := ss_step (k := 77) (t := 0) (n := 200) (c' := 18) (s := 7) (r := some 77) hs11 (by decide)
  have hn14 := nn_step (k := 77) (t := 0) (n := 200) (c := 18) (s := 7) (r := some 77) hn12
  refine aw_aload_n (i := 0) rfl d_X1_init_62 0 rfl ?_
  refine aw_bipush (v := 16) d_X1_init_63 ib_16 ?_
  refine aw_newa (t := 0) (atype := .int) 78 16 (by decide) rfl tw_51 (hn14 78 (by decide) (by decide)) (by decide) xs0 (by decide) (by decide) (by decide) (Nat.le_of_ble_eq_true rfl) (Nat.le_of_ble_eq_true rfl) d_X1_init_65 ?_
  refine aw_putrF (k0 := 9) kc_1 (ss_n hs13 (by decide)) (Nat.le_of_ble_eq_true rfl) tw_275 d_X1_init_67 rfl rfl rfl rfl ?_
  have hs15 := ss_step (k := 78) (t := 0) (n := 16) (c' := 18) (s := 9) (r := some 78) hs13 (by decide)
  have hn16 := nn_step (k := 78) (t := 0) (n := 16) (c := 18) (s := 9) (r := some 78) hn14
  refine aw_aload_n (i := 0) rfl d_X1_init_70 0 rfl ?_
  refine aw_sipush (v := 180) d_X1_init_71 is_180 ?_
  refine aw_newa (t := 0) (atype := .int) 79 180 (by decide) rfl tw_51 (hn16 79 (by decide) (by decide)) (by decide) xs0 (by decide) (by decide) (by decide) (Nat.le_of_ble_eq_true rfl) (Nat.le_of_ble_eq_true rfl) d_X1_init_74 ?_
  refine aw_putrF (k0 := 10) kc_1 (ss_n hs15 (by decide)) (Nat.le_of_ble_eq_true rfl) tw_276 d_X1_init_76 rfl rfl rfl rfl ?_
  have hs17 := ss_step (k := 79) (t := 0) (n := 180) (c' := 18) (s := 10) (r := some 79) hs15 (by decide)
  have hn18 := nn_step (k := 79) (t := 0) (n := 180) (c := 18) (s := 10) (r := some 79) hn16
  refine aw_aload_n (i := 0) rfl d_X1_init_79 0 rfl ?_
  refine aw_sipush (v := 180) d_X1_init_80 is_180 ?_
  refine aw_newa (t := 0) (atype := .int) 80 180 (by decide) rfl tw_51 (hn18 80 (by decide) (by decide)) (by decide) xs0 (by decide) (by decide) (by decide) (Nat.le_of_ble_eq_true rfl) (Nat.le_of_ble_eq_true rfl) d_X1_init_83 ?_
  refine aw_putrF (k0 := 11) kc_1 (ss_n hs17 (by decide)) (Nat.le_of_ble_eq_true rfl) tw_277 d_X1_init_85 rfl rfl rfl rfl ?_
  have hs19 := ss_step (k := 80) (t := 0) (n := 180) (c' := 18) (s := 11) (r := some 80) hs17 (by decide)
  have hn20 := nn_step (k := 80) (t := 0) (n := 180) (c := 18) (s := 11) (r := some 80) hn18
  refine aw_aload_n (i := 0) rfl d_X1_init_88 0 rfl ?_
  refine aw_sipush (v := 180) d_X1_init_89 is_180 ?_
  refine aw_newa (t := 0) (atype := .int) 81 180 (by decide) rfl tw_51 (hn20 81 (by decide) (by decide)) (by decide) xs0 (by decide) (by decide) (by decide) (Nat.le_of_ble_eq_true rfl) (Nat.le_of_ble_eq_true rfl) d_X1_init_92 ?_
  refine aw_putrF (k0 := 12) kc_1 (ss_n hs19 (by decide)) (Nat.le_of_ble_eq_true rfl) tw_278 d_X1_init_94 rfl rfl rfl rfl ?_
  have hs21 := ss_step (k := 81) (t := 0) (n := 180) (c' := 18) (s := 12) (r := some 81) hs19 (by decide)
  have hn22 := nn_step (k := 81) (t := 0) (n := 180) (c := 18) (s := 12) (r := some 81) hn20
  refine aw_aload_n (i := 0) rfl d_X1_init_97 0 rfl ?_
  refine aw_bipush (v := 8) d_X1_init_98 ib_8 ?_
  refine aw_newa (t := 0) (atype := .int) 82 8 (by decide) rfl tw_51 (hn22 82 (by decide) (by decide)) (by decide) xs0 (by decide) (by decide) (by decide) (Nat.le_of_ble_eq_true rfl) (Nat.le_of_ble_eq_true rfl) d_X1_init_100 ?_
  refine aw_putrF (k0 := 13) kc_1 (ss_n hs21 (by decide)) (Nat.le_of_ble_eq_true rfl) tw_279 d_X1_init_102 rfl rfl rfl rfl ?_
  have hs23 := ss_step (k := 82) (t := 0) (n := 8) (c' := 18) (s := 13) (r := some 82) hs21 (by decide)
  have hn24 := nn_step (k := 82) (t := 0) (n := 8) (c := 18) (s := 13) (r := some 82) hn22
  refine aw_aload_n (i := 0) rfl d_X1_init_105 0 rfl ?_
  refine aw_bipush (v := 8) d_X1_init_106 ib_8 ?_
  refine aw_newa (t := 0) (atype := .int) 83 8 (by decide) rfl tw_51 (hn24 83 (by decide) (by decide)) (by decide) xs0 (by decide) (by decide) (by decide) (Nat.le_of_ble_eq_true rfl) (Nat.le_of_ble_eq_true rfl) d_X1_init_108 ?_
  refine aw_putrF (k0 := 14) kc_1 (ss_n hs23 (by decide)) (Nat.le_of_ble_eq_true rfl) tw_280 d_X1_init_110 rfl rfl rfl rfl ?_
  have hs25 := ss_step (k := 83) (t := 0) (n := 8) (c' := 18) (s := 14) (r := some 83) hs23 (by decide)
  have hn26 := nn_step (k := 83) (t := 0) (n := 8) (c := 18) (s := 14) (r := some 83) hn24
  refine aw_aload_n (i := 0) rfl d_X1_init_113 0 rfl ?_
  refine aw_bipush (v := 30) d_X1_init_114 ib_30 ?_
  refine aw_newa (t := 0) (atype := .int) 84 30 (by decide) rfl tw_51 (hn26 84 (by decide) (by decide)) (by decide) xs0 (by decide) (by decide) (by decide) (Nat.le_of_ble_eq_true rfl) (Nat.le_of_ble_eq_true rfl) d_X1_init_116 ?_
  refine aw_putrF (k0 := 15) kc_1 (ss_n hs25 (by decide)) (Nat.le_of_ble_eq_true rfl) tw_281 d_X1_init_118 rfl rfl rfl rfl ?_
  have hs27 := ss_step (k := 84) (t := 0) (n := 30) (c' := 18) (s := 15) (r := some 84) hs25 (by decide)
  have hn28 := nn_step (k := 84) (t := 0) (n := 30) (c := 18) (s := 15) (r := some 84) hn26
  refine aw_aload_n (i := 0) rfl d_X1_init_121 0 rfl ?_
  refine aw_getr (k0 := 5) (b := 75) kc_1 hs27 (Nat.le_of_ble_eq_true rfl) tw_269 d_X1_init_122 rfl rfl ?_
  refine aw_iconst (v := 1) d_X1_init_125 ic_1 ?_
  refine aw_Sv [.ref 75, .int 1] [] d_X1_init_126 (cS_J7_fill_53178 (d + 0) 0 0) tw_259 rfl (rr1 (by decide) (by decide) (Nat.le_of_ble_eq_true rfl) (Nat.le_of_ble_eq_true rfl)) (by decide) xs0 (s_J7_fill d _ 75 8 1 rfl (by decide)) (fun h9 kk => ?_)
  subst kk
  refine aw_aload_n (i := 0) rfl d_X1_init_129 0 rfl ?_
  refine aw_getr (k0 := 9) (b := 78) kc_1 hs27 (Nat.le_of_ble_eq_true rfl) tw_275 d_X1_init_130 rfl rfl ?_
  refine aw_iconst (v := (-1)) d_X1_init_133 ic_m1 ?_
  refine aw_Sv [.ref 78, .int (-1)] [] d_X1_init_134 (cS_J7_fill_53178 (d + 0) 0 0) tw_259 rfl (rr1 (by decide) (by decide) (Nat.le_of_ble_eq_true rfl) (Nat.le_of_ble_eq_true rfl)) (by decide) xs0 (s_J7_fill d _ 78 16 (-1) rfl (by decide)) (fun h9 kk => ?_)
  subst kk
  exact aw_vret rfl d_X1_init_137 ⟨Nat.le_of_ble_eq_true rfl, Nat.le_of_ble_eq_true rfl⟩ ⟨rfl, rfl⟩
set_option maxRecDepth 100000 in
def CH_19 (h : Hp_) : Hp_ := h_rm (h_nw (h_rm (h_nw (h_rm (h_nw (h_rm (h_nw (h_rm (h_nw (h_im (h_im (h_rm (h_nw (h_rm (h_nw h 85 0 8) 19 0 (some 85)) 86 0 8) 19 1 (some 86)) 19 4 3) 19 5 1) 87 0 64) 19 6 (some 87)) 88 0 2304) 19 7 (some 88)) 89 1 2304) 19 8 (some 89)) 90 0 8) 19 9 (some 90)) 91 0 8) 19 10 (some 91)
set_option maxRecDepth 100000 in
theorem k_X3_init_19 (d : Nat) (h : Hp_) (hs : h_sh h 19 = some (13, 11)) (hn : ∀ a, 85 ≤ a → a < 92 → h_sh h a = none) : Cv (m_X3_init (d + 1) 7 4704) [.ref 19] h (fun h' => h' = CH_19 h) := by
  refine Ct.of (fun _ _ _ => trivial) rfl (Nat.le_of_ble_eq_true rfl) ?_
  show AW (m_X3_init (d + 1) 7 4704) 0 0 0 [(0, .ref 19)] [] h (kV _)
  refine aw_aload_n (i := 0) rfl d_X3_init_0 0 rfl ?_
  refine aw_objInit (rest := []) d_X3_init_1 tw_320 tw_33 tw_34 (show 1 ≤ d + 1 by omega) (show 0 + 12 ≤ 100 * (d + 1) by omega) ?_
  refine aw_aload_n (i := 0) rfl d_X3_init_4 0 rfl ?_
  refine aw_bipush (v := 8) d_X3_init_5 ib_8 ?_
  refine aw_newa (t := 0) (atype := .int) 85 8 (by decide) rfl tw_51 (hn 85 (by decide) (by decide)) (by decide) xs0 (by decide) (by decide) (by decide) (Nat.le_of_ble_eq_true rfl) (Nat.le_of_ble_eq_true rfl) d_X3_init_7 ?_
  refine aw_putrF (k0 := 0) kc_3 (ss_n hs (by decide)) (Nat.le_of_ble_eq_true rfl) tw_321 d_X3_init_9 rfl rfl rfl rfl ?_
  have hs1 := ss_step (k := 85) (t := 0) (n := 8) (c' := 19) (s := 0) (r := some 85) hs (by decide)
  have hn2 := nn_step (k := 85) (t := 0) (n := 8) (c := 19) (s := 0) (r := some 85) hn
  refine aw_aload_n (i := 0) rfl d_X3_init_12 0 rfl ?_
  refine aw_bipush (v := 8) d_X3_init_13 ib_8 ?_
  refine aw_newa (t := 0) (atype := .int) 86 8 (by decide) rfl tw_51 (hn2 86 (by decide) (by decide)) (by decide) xs0 (by decide) (by decide) (by decide) (Nat.le_of_ble_eq_true rfl) (Nat.le_of_ble_eq_true rfl) d_X3_init_15 ?_
  refine aw_putrF (k0 := 1) kc_3 (ss_n hs1 (by decide)) (Nat.le_of_ble_eq_true rfl) tw_322 d_X3_init_17 rfl rfl rfl rfl ?_
  have hs3 := ss_step (k := 86) (t := 0) (n := 8) (c' := 19) (s := 1) (r := some 86) hs1 (by decide)
  have hn4 := nn_step (k := 86) (t := 0) (n := 8) (c := 19) (s := 1) (r := some 86) hn2
  refine aw_aload_n (i := 0) rfl d_X3_init_20 0 rfl ?_
  refine aw_iconst (v := 3) d_X3_init_21 ic_3 ?_
  refine aw_puti (k0 := 4) kc_3 hs3 (Nat.le_of_ble_eq_true rfl) tw_327 d_X3_init_22 rfl rfl nf_i ?_
  have hs5 := ss_im (a := 19) (k := 4) (x := 3) hs3
  have hn6 := nn_im (b := 19) (k := 4) (x := 3) hn4
  refine aw_aload_n (i := 0) rfl d_X3_init_25 0 rfl ?_
  refine aw_iconst (v := 1) d_X3_init_26 ic_1 ?_
  refine aw_puti (k0 := 5) kc_3 hs5 (Nat.le_of_ble_eq_true rfl) tw_328 d_X3_init_27 rfl rfl ⟨rfl, rfl⟩ ?_
  have hs7 := ss_im (a := 19) (k := 5) (x := 1) hs5
  have hn8 := nn_im (b := 19) (k := 5) (x := 1) hn6
  refine aw_aload_n (i := 0) rfl d_X3_init_30 0 rfl ?_
  refine aw_bipush (v := 64) d_X3_init_31 ib_64 ?_
  refine aw_newa (t := 0) (atype := .int) 87 64 (by decide) rfl tw_51 (hn8 87 (by decide) (by decide)) (by decide) xs0 (by decide) (by decide) (by decide) (Nat.le_of_ble_eq_true rfl) (Nat.le_of_ble_eq_true rfl) d_X3_init_33 ?_
  refine aw_putrF (k0 := 6) kc_3 (ss_n hs7 (by decide)) (Nat.le_of_ble_eq_true rfl) tw_329 d_X3_init_35 rfl rfl rfl rfl ?_
  have hs9 := ss_step (k := 87) (t := 0) (n := 64) (c' := 19) (s := 6) (r := some 87) hs7 (by decide)
  have hn10 := nn_step (k := 87) (t := 0) (n := 64) (c := 19) (s := 6) (r := some 87) hn8
  refine aw_aload_n (i := 0) rfl d_X3_init_38 0 rfl ?_
  refine aw_sipush (v := 2304) d_X3_init_39 is_2304 ?_
  refine aw_newa (t := 0) (atype := .int) 88 2304 (by decide) rfl tw_51 (hn10 88 (by decide) (by decide)) (by decide) xs0 (by decide) (by decide) (by decide) (Nat.le_of_ble_eq_true rfl) (Nat.le_of_ble_eq_true rfl) d_X3_init_42 ?_
  refine aw_putrF (k0 := 7) kc_3 (ss_n hs9 (by decide)) (Nat.le_of_ble_eq_true rfl) tw_330 d_X3_init_44 rfl rfl rfl rfl ?_
  have hs11 := ss_step (k := 88) (t := 0) (n := 2304) (c' := 19) (s := 7) (r := some 88) hs9 (by decide)
  have hn12 := nn_step (k := 88) (t := 0) (n := 2304) (c := 19) (s := 7) (r := some 88) hn10
  refine aw_aload_n (i := 0) rfl d_X3_init_47 0 rfl ?_
  refine aw_sipush (v := 2304) d_X3_init_48 is_2304 ?_
  refine aw_newa (t := 1) (atype := .boolean) 89 2304 (by decide) rfl tw_252 (hn12 89 (by decide) (by decide)) (by decide) xs0 (by decide) (by decide) (by decide) (Nat.le_of_ble_eq_true rfl) (Nat.le_of_ble_eq_true rfl) d_X3_init_51 ?_
  refine aw_putrF (k0 := 8) kc_3 (ss_n hs11 (by decide)) (Nat.le_of_ble_eq_true rfl) tw_331 d_X3_init_53 rfl rfl rfl rfl ?_
  have hs13 := ss_step (k := 89) (t := 1) (n := 2304) (c' := 19) (s := 8) (r := some 89) hs11 (by decide)
  have hn14 := nn_step (k := 89) (t := 1) (n := 2304) (c := 19) (s := 8) (r := some 89) hn12
  refine aw_aload_n (i := 0) rfl d_X3_init_56 0 rfl ?_
  refine aw_bipush (v := 8) d_X3_init_57 ib_8 ?_
  refine aw_newa (t := 0) (atype := .int) 90 8 (by decide) rfl tw_51 (hn14 90 (by decide) (by decide)) (by decide) xs0 (by decide) (by decide) (by decide) (Nat.le_of_ble_eq_true rfl) (Nat.le_of_ble_eq_true rfl) d_X3_init_59 ?_
  refine aw_putrF (k0 := 9) kc_3 (ss_n hs13 (by decide)) (Nat.le_of_ble_eq_true rfl) tw_332 d_X3_init_61 rfl rfl rfl rfl ?_
  have hs15 := ss_step (k := 90) (t := 0) (n := 8) (c' := 19) (s := 9) (r := some 90) hs13 (by decide)
  have hn16 := nn_step (k := 90) (t := 0) (n := 8) (c := 19) (s := 9) (r := some 90) hn14
  refine aw_aload_n (i := 0) rfl d_X3_init_64 0 rfl ?_
  refine aw_bipush (v := 8) d_X3_init_65 ib_8 ?_
  refine aw_newa (t := 0) (atype := .int) 91 8 (by decide) rfl tw_51 (hn16 91 (by decide) (by decide)) (by decide) xs0 (by decide) (by decide) (by decide) (Nat.le_of_ble_eq_true rfl) (Nat.le_of_ble_eq_true rfl) d_X3_init_67 ?_
  refine aw_putrF (k0 := 10) kc_3 (ss_n hs15 (by decide)) (Nat.le_of_ble_eq_true rfl) tw_333 d_X3_init_69 rfl rfl rfl rfl ?_
  have hs17 := ss_step (k := 91) (t := 0) (n := 8) (c' := 19) (s := 10) (r := some 91) hs15 (by decide)
  have hn18 := nn_step (k := 91) (t := 0) (n := 8) (c := 19) (s := 10) (r := some 91) hn16
  exact aw_vret rfl d_X3_init_72 ⟨Nat.le_of_ble_eq_true rfl, Nat.le_of_ble_eq_true rfl⟩ ⟨rfl, rfl⟩
set_option maxRecDepth 100000 in
def CH_20 (h : Hp_) : Hp_ := h_rm (h_nw (h_rm (h_nw (h_rm (h_nw (h_rm (h_nw (h_rm (h_nw (h_rm (h_nw (h_rm (h_nw (h_rm (h_nw (h_rm (h_nw (h_rm (h_nw (h_rm (h_nw (h_rm (h_nw h 92 0 8) 20 0 (some 92)) 93 0 8) 20 1 (some 93)) 94 0 8) 20 2 (some 94)) 95 3 5) 20 4 (some 95)) 96 0 5) 20 5 (some 96)) 97 0 5) 20 6 (some 97)) 98 0 4) 20 13 (some 98)) 99 0 4) 20 14 (some 99)) 100 0 4) 20 15 (some 100)) 101 0 48) 20 17 (some 101)) 102 0 3328) 20 18 (some 102)) 103 0 12) 20 19 (some 103)
set_option maxRecDepth 100000 in
theorem k_X6_init_20 (d : Nat) (h : Hp_) (hs : h_sh h 20 = some (16, 20)) (hn : ∀ a, 92 ≤ a → a < 104 → h_sh h a = none) : Cv (m_X6_init (d + 1) 12 3439) [.ref 20] h (fun h' => h' = CH_20 h) := by
  refine Ct.of (fun _ _ _ => trivial) rfl (Nat.le_of_ble_eq_true rfl) ?_
  show AW (m_X6_init (d + 1) 12 3439) 0 0 0 [(0, .ref 20)] [] h (kV _)
  refine aw_aload_n (i := 0) rfl d_X6_init_0 0 rfl ?_
  refine aw_objInit (rest := []) d_X6_init_1 tw_362 tw_33 tw_34 (show 1 ≤ d + 1 by omega) (show 0 + 12 ≤ 100 * (d + 1) by omega) ?_
  refine aw_aload_n (i := 0) rfl d_X6_init_4 0 rfl ?_
  refine aw_bipush (v := 8) d_X6_init_5 ib_8 ?_
  refine aw_newa (t := 0) (atype := .int) 92 8 (by decide) rfl tw_51 (hn 92 (by decide) (by decide)) (by decide) xs0 (by decide) (by decide) (by decide) (Nat.le_of_ble_eq_true rfl) (Nat.le_of_ble_eq_true rfl) d_X6_init_7 ?_
  refine aw_putrF (k0 := 0) kc_6 (ss_n hs (by decide)) (Nat.le_of_ble_eq_true rfl) tw_363 d_X6_init_9 rfl rfl rfl rfl ?_
  have hs1 := ss_step (k := 92) (t := 0) (n := 8) (c' := 20) (s := 0) (r := some 92) hs (by decide)
  have hn2 := nn_step (k := 92) (t := 0) (n := 8) (c := 20) (s := 0) (r := some 92) hn
  refine aw_aload_n (i := 0) rfl d_X6_init_12 0 rfl ?_
  refine aw_bipush (v := 8) d_X6_init_13 ib_8 ?_
  refine aw_newa (t := 0) (atype := .int) 93 8 (by decide) rfl tw_51 (hn2 93 (by decide) (by decide)) (by decide) xs0 (by decide) (by decide) (by decide) (Nat.le_of_ble_eq_true rfl) (Nat.le_of_ble_eq_true rfl) d_X6_init_15 ?_
  refine aw_putrF (k0 := 1) kc_6 (ss_n hs1 (by decide)) (Nat.le_of_ble_eq_true rfl) tw_364 d_X6_init_17 rfl rfl rfl rfl ?_
  have hs3 := ss_step (k := 93) (t := 0) (n := 8) (c' := 20) (s := 1) (r := some 93) hs1 (by decide)
  have hn4 := nn_step (k := 93) (t := 0) (n := 8) (c := 20) (s := 1) (r := some 93) hn2
  refine aw_aload_n (i := 0) rfl d_X6_init_20 0 rfl ?_
  refine aw_bipush (v := 8) d_X6_init_21 ib_8 ?_
  refine aw_newa (t := 0) (atype := .int) 94 8 (by decide) rfl tw_51 (hn4 94 (by decide) (by decide)) (by decide) xs0 (by decide) (by decide) (by decide) (Nat.le_of_ble_eq_true rfl) (Nat.le_of_ble_eq_true rfl) d_X6_init_23 ?_
  refine aw_putrF (k0 := 2) kc_6 (ss_n hs3 (by decide)) (Nat.le_of_ble_eq_true rfl) tw_365 d_X6_init_25 rfl rfl rfl rfl ?_
  have hs5 := ss_step (k := 94) (t := 0) (n := 8) (c' := 20) (s := 2) (r := some 94) hs3 (by decide)
  have hn6 := nn_step (k := 94) (t := 0) (n := 8) (c := 20) (s := 2) (r := some 94) hn4
  refine aw_aload_n (i := 0) rfl d_X6_init_28 0 rfl ?_
  refine aw_iconst (v := 5) d_X6_init_29 ic_5 ?_
  refine aw_newa (t := 3) (atype := .long) 95 5 (by decide) rfl tw_426 (hn6 95 (by decide) (by decide)) (by decide) xs0 (by decide) (by decide) (by decide) (Nat.le_of_ble_eq_true rfl) (Nat.le_of_ble_eq_true rfl) d_X6_init_30 ?_
  refine aw_putrF (k0 := 4) kc_6 (ss_n hs5 (by decide)) (Nat.le_of_ble_eq_true rfl) tw_368 d_X6_init_32 rfl rfl rfl rfl ?_
  have hs7 := ss_step (k := 95) (t := 3) (n := 5) (c' := 20) (s := 4) (r := some 95) hs5 (by decide)
  have hn8 := nn_step (k := 95) (t := 3) (n := 5) (c := 20) (s := 4) (r := some 95) hn6
  refine aw_aload_n (i := 0) rfl d_X6_init_35 0 rfl ?_
  refine aw_iconst (v := 5) d_X6_init_36 ic_5 ?_
  refine aw_newa (t := 0) (atype := .int) 96 5 (by decide) rfl tw_51 (hn8 96 (by decide) (by decide)) (by decide) xs0 (by decide) (by decide) (by decide) (Nat.le_of_ble_eq_true rfl) (Nat.le_of_ble_eq_true rfl) d_X6_init_37 ?_
  refine aw_putrF (k0 := 5) kc_6 (ss_n hs7 (by decide)) (Nat.le_of_ble_eq_true rfl) tw_369 d_X6_init_39 rfl rfl rfl rfl ?_
  have hs9 := ss_step (k := 96) (t := 0) (n := 5) (c' := 20) (s := 5) (r := some 96) hs7 (by decide)
  have hn10 := nn_step (k := 96) (t := 0) (n := 5) (c := 20) (s := 5) (r := some 96) hn8
  refine aw_aload_n (i := 0) rfl d_X6_init_42 0 rfl ?_
  refine aw_iconst (v := 5) d_X6_init_43 ic_5 ?_
  refine aw_newa (t := 0) (atype := .int) 97 5 (by decide) rfl tw_51 (hn10 97 (by decide) (by decide)) (by decide) xs0 (by decide) (by decide) (by decide) (Nat.le_of_ble_eq_true rfl) (Nat.le_of_ble_eq_true rfl) d_X6_init_44 ?_
  refine aw_putrF (k0 := 6) kc_6 (ss_n hs9 (by decide)) (Nat.le_of_ble_eq_true rfl) tw_370 d_X6_init_46 rfl rfl rfl rfl ?_
  have hs11 := ss_step (k := 97) (t := 0) (n := 5) (c' := 20) (s := 6) (r := some 97) hs9 (by decide)
  have hn12 := nn_step (k := 97) (t := 0) (n := 5) (c := 20) (s := 6) (r := some 97) hn10
  refine aw_aload_n (i := 0) rfl d_X6_init_49 0 rfl ?_
  refine aw_iconst (v := 4) d_X6_init_50 ic_4 ?_
  refine aw_newa (t := 0) (atype := .int) 98 4 (by decide) rfl tw_51 (hn12 98 (by decide) (by decide)) (by decide) xs0 (by decide) (by decide) (by decide) (Nat.le_of_ble_eq_true rfl) (Nat.le_of_ble_eq_true rfl) d_X6_init_51 ?_
  refine aw_putrF (k0 := 13) kc_6 (ss_n hs11 (by decide)) (Nat.le_of_ble_eq_true rfl) tw_377 d_X6_init_53 rfl rfl rfl rfl ?_
  have hs13 := ss_step (k := 98) (t := 0) (n := 4) (c' := 20) (s := 13) (r := some 98) hs11 (by decide)
  have hn14 := nn_step (k := 98) (t := 0) (n := 4) (c := 20) (s := 13) (r := some 98) hn12
  refine aw_aload_n (i := 0) rfl d_X6_init_56 0 rfl ?_
  refine aw_iconst (v := 4) d_X6_init_57 ic_4 ?_
  refine aw_newa (t := 0) (atype := .int) 99 4 (by decide) rfl tw_51 (hn14 99 (by decide) (by decide)) (by decide) xs0 (by decide) (by decide) (by decide) (Nat.le_of_ble_eq_true rfl) (Nat.le_of_ble_eq_true rfl) d_X6_init_58 ?_
  refine aw_putrF (k0 := 14) kc_6 (ss_n hs13 (by decide)) (Nat.le_of_ble_eq_true rfl) tw_378 d_X6_init_60 rfl rfl rfl rfl ?_
  have hs15 := ss_step (k := 99) (t := 0) (n := 4) (c' := 20) (s := 14) (r := some 99) hs13 (by decide)
  have hn16 := nn_step (k := 99) (t := 0) (n := 4) (c := 20) (s := 14) (r := some 99) hn14
  refine aw_aload_n (i := 0) rfl d_X6_init_63 0 rfl ?_
  refine aw_iconst (v := 4) d_X6_init_64 ic_4 ?_
  refine aw_newa (t := 0) (atype := .int) 100 4 (by decide) rfl tw_51 (hn16 100 (by decide) (by decide)) (by decide) xs0 (by decide) (by decide) (by decide) (Nat.le_of_ble_eq_true rfl) (Nat.le_of_ble_eq_true rfl) d_X6_init_65 ?_
  refine aw_putrF (k0 := 15) kc_6 (ss_n hs15 (by decide)) (Nat.le_of_ble_eq_true rfl) tw_379 d_X6_init_67 rfl rfl rfl rfl ?_
  have hs17 := ss_step (k := 100) (t := 0) (n := 4) (c' := 20) (s := 15) (r := some 100) hs15 (by decide)
  have hn18 := nn_step (k := 100) (t := 0) (n := 4) (c := 20) (s := 15) (r := some 100) hn16
  refine aw_aload_n (i := 0) rfl d_X6_init_70 0 rfl ?_
  refine aw_bipush (v := 48) d_X6_init_71 ib_48 ?_
  refine aw_newa (t := 0) (atype := .int) 101 48 (by decide) rfl tw_51 (hn18 101 (by decide) (by decide)) (by decide) xs0 (by decide) (by decide) (by decide) (Nat.le_of_ble_eq_true rfl) (Nat.le_of_ble_eq_true rfl) d_X6_init_73 ?_
  refine aw_putrF (k0 := 17) kc_6 (ss_n hs17 (by decide)) (Nat.le_of_ble_eq_true rfl) tw_382 d_X6_init_75 rfl rfl rfl rfl ?_
  have hs19 := ss_step (k := 101) (t := 0) (n := 48) (c' := 20) (s := 17) (r := some 101) hs17 (by decide)
  have hn20 := nn_step (k := 101) (t := 0) (n := 48) (c := 20) (s := 17) (r := some 101) hn18
  refine aw_aload_n (i := 0) rfl d_X6_init_78 0 rfl ?_
  refine aw_sipush (v := 3328) d_X6_init_79 is_3328 ?_
  refine aw_newa (t := 0) (atype := .int) 102 3328 (by decide) rfl tw_51 (hn20 102 (by decide) (by decide)) (by decide) xs0 (by decide) (by decide) (by decide) (Nat.le_of_ble_eq_true rfl) (Nat.le_of_ble_eq_true rfl) d_X6_init_82 ?_
  refine aw_putrF (k0 := 18) kc_6 (ss_n hs19 (by decide)) (Nat.le_of_ble_eq_true rfl) tw_383 d_X6_init_84 rfl rfl rfl rfl ?_
  have hs21 := ss_step (k := 102) (t := 0) (n := 3328) (c' := 20) (s := 18) (r := some 102) hs19 (by decide)
  have hn22 := nn_step (k := 102) (t := 0) (n := 3328) (c := 20) (s := 18) (r := some 102) hn20
  refine aw_aload_n (i := 0) rfl d_X6_init_87 0 rfl ?_
  refine aw_bipush (v := 12) d_X6_init_88 ib_12 ?_
  refine aw_newa (t := 0) (atype := .int) 103 12 (by decide) rfl tw_51 (hn22 103 (by decide) (by decide)) (by decide) xs0 (by decide) (by decide) (by decide) (Nat.le_of_ble_eq_true rfl) (Nat.le_of_ble_eq_true rfl) d_X6_init_90 ?_
  refine aw_putrF (k0 := 19) kc_6 (ss_n hs21 (by decide)) (Nat.le_of_ble_eq_true rfl) tw_384 d_X6_init_92 rfl rfl rfl rfl ?_
  have hs23 := ss_step (k := 103) (t := 0) (n := 12) (c' := 20) (s := 19) (r := some 103) hs21 (by decide)
  have hn24 := nn_step (k := 103) (t := 0) (n := 12) (c := 20) (s := 19) (r := some 103) hn22
  exact aw_vret rfl d_X6_init_95 ⟨Nat.le_of_ble_eq_true rfl, Nat.le_of_ble_eq_true rfl⟩ ⟨rfl, rfl⟩
set_option maxRecDepth 100000 in
def CH_21 (h : Hp_) : Hp_ := h_iw (h_im (h_rm (h_nw (h_rm (h_nw (h_rm (h_nw (h_rm (h_nw (h_rm (h_nw (h_rm (h_nw (h_rm (h_nw (h_rm (h_nw (h_rm (h_nw (h_rm (h_nw (h_rm (h_nw (h_rm (h_nw h 104 0 40) 21 0 (some 104)) 105 0 40) 21 1 (some 105)) 106 0 40) 21 2 (some 106)) 107 0 40) 21 3 (some 107)) 108 0 6) 21 5 (some 108)) 109 0 168) 21 6 (some 109)) 110 0 168) 21 7 (some 110)) 111 0 600) 21 8 (some 111)) 112 0 600) 21 9 (some 112)) 113 0 600) 21 10 (some 113)) 114 0 600) 21 11 (some 114)) 115 0 48) 21 14 (some 115)) 21 15 3) 115 (fl_ (fun _ => (-1)) (h_i (h_im (h_rm (h_nw (h_rm (h_nw (h_rm (h_nw (h_rm (h_nw (h_rm (h_nw (h_rm (h_nw (h_rm (h_nw (h_rm (h_nw (h_rm (h_nw (h_rm (h_nw (h_rm (h_nw (h_rm (h_nw h 104 0 40) 21 0 (some 104)) 105 0 40) 21 1 (some 105)) 106 0 40) 21 2 (some 106)) 107 0 40) 21 3 (some 107)) 108 0 6) 21 5 (some 108)) 109 0 168) 21 6 (some 109)) 110 0 168) 21 7 (some 110)) 111 0 600) 21 8 (some 111)) 112 0 600) 21 9 (some 112)) 113 0 600) 21 10 (some 113)) 114 0 600) 21 11 (some 114)) 115 0 48) 21 14 (some 115)) 21 15 3) 115) 48)
set_option maxRecDepth 100000 in
theorem k_X5_init_21 (d : Nat) (h : Hp_) (hs : h_sh h 21 = some (15, 16)) (hn : ∀ a, 104 ≤ a → a < 116 → h_sh h a = none) : Cv (m_X5_init (d + 1) 12 2950) [.ref 21] h (fun h' => h' = CH_21 h) := by
  refine Ct.of (fun _ _ _ => trivial) rfl (Nat.le_of_ble_eq_true rfl) ?_
  show AW (m_X5_init (d + 1) 12 2950) 0 0 0 [(0, .ref 21)] [] h (kV _)
  refine aw_aload_n (i := 0) rfl d_X5_init_0 0 rfl ?_
  refine aw_objInit (rest := []) d_X5_init_1 tw_432 tw_33 tw_34 (show 1 ≤ d + 1 by omega) (show 0 + 12 ≤ 100 * (d + 1) by omega) ?_
  refine aw_aload_n (i := 0) rfl d_X5_init_4 0 rfl ?_
  refine aw_bipush (v := 40) d_X5_init_5 ib_40 ?_
  refine aw_newa (t := 0) (atype := .int) 104 40 (by decide) rfl tw_51 (hn 104 (by decide) (by decide)) (by decide) xs0 (by decide) (by decide) (by decide) (Nat.le_of_ble_eq_true rfl) (Nat.le_of_ble_eq_true rfl) d_X5_init_7 ?_
  refine aw_putrF (k0 := 0) kc_5 (ss_n hs (by decide)) (Nat.le_of_ble_eq_true rfl) tw_434 d_X5_init_9 rfl rfl rfl rfl ?_
  have hs1 := ss_step (k := 104) (t := 0) (n := 40) (c' := 21) (s := 0) (r := some 104) hs (by decide)
  have hn2 := nn_step (k := 104) (t := 0) (n := 40) (c := 21) (s := 0) (r := some 104) hn
  refine aw_aload_n (i := 0) rfl d_X5_init_12 0 rfl ?_
  refine aw_bipush (v := 40) d_X5_init_13 ib_40 ?_
  refine aw_newa (t := 0) (atype := .int) 105 40 (by decide) rfl tw_51 (hn2 105 (by decide) (by decide)) (by decide) xs0 (by decide) (by decide) (by decide) (Nat.le_of_ble_eq_true rfl) (Nat.le_of_ble_eq_true rfl) d_X5_init_15 ?_
  refine aw_putrF (k0 := 1) kc_5 (ss_n hs1 (by decide)) (Nat.le_of_ble_eq_true rfl) tw_435 d_X5_init_17 rfl rfl rfl rfl ?_
  have hs3 := ss_step (k := 105) (t := 0) (n := 40) (c' := 21) (s := 1) (r := some 105) hs1 (by decide)
  have hn4 := nn_step (k := 105) (t := 0) (n := 40) (c := 21) (s := 1) (r := some 105) hn2
  refine aw_aload_n (i := 0) rfl d_X5_init_20 0 rfl ?_
  refine aw_bipush (v := 40) d_X5_init_21 ib_40 ?_
  refine aw_newa (t := 0) (atype := .int) 106 40 (by decide) rfl tw_51 (hn4 106 (by decide) (by decide)) (by decide) xs0 (by decide) (by decide) (by decide) (Nat.le_of_ble_eq_true rfl) (Nat.le_of_ble_eq_true rfl) d_X5_init_23 ?_
  refine aw_putrF (k0 := 2) kc_5 (ss_n hs3 (by decide)) (Nat.le_of_ble_eq_true rfl) tw_436 d_X5_init_25 rfl rfl rfl rfl ?_
  have hs5 := ss_step (k := 106) (t := 0) (n := 40) (c' := 21) (s := 2) (r := some 106) hs3 (by decide)
  have hn6 := nn_step (k := 106) (t := 0) (n := 40) (c := 21) (s := 2) (r := some 106) hn4
  refine aw_aload_n (i := 0) rfl d_X5_init_28 0 rfl ?_
  refine aw_bipush (v := 40) d_X5_init_29 ib_40 ?_
  refine aw_newa (t := 0) (atype := .int) 107 40 (by decide) rfl tw_51 (hn6 107 (by decide) (by decide)) (by decide) xs0 (by decide) (by decide) (by decide) (Nat.le_of_ble_eq_true rfl) (Nat.le_of_ble_eq_true rfl) d_X5_init_31 ?_
  refine aw_putrF (k0 := 3) kc_5 (ss_n hs5 (by decide)) (Nat.le_of_ble_eq_true rfl) tw_437 d_X5_init_33 rfl rfl rfl rfl ?_
  have hs7 := ss_step (k := 107) (t := 0) (n := 40) (c' := 21) (s := 3) (r := some 107) hs5 (by decide)
  have hn8 := nn_step (k := 107) (t := 0) (n := 40) (c := 21) (s := 3) (r := some 107) hn6
  refine aw_aload_n (i := 0) rfl d_X5_init_36 0 rfl ?_
  refine aw_bipush (v := 6) d_X5_init_37 ib_6 ?_
  refine aw_newa (t := 0) (atype := .int) 108 6 (by decide) rfl tw_51 (hn8 108 (by decide) (by decide)) (by decide) xs0 (by decide) (by decide) (by decide) (Nat.le_of_ble_eq_true rfl) (Nat.le_of_ble_eq_true rfl) d_X5_init_39 ?_
  refine aw_putrF (k0 := 5) kc_5 (ss_n hs7 (by decide)) (Nat.le_of_ble_eq_true rfl) tw_439 d_X5_init_41 rfl rfl rfl rfl ?_
  have hs9 := ss_step (k := 108) (t := 0) (n := 6) (c' := 21) (s := 5) (r := some 108) hs7 (by decide)
  have hn10 := nn_step (k := 108) (t := 0) (n := 6) (c := 21) (s := 5) (r := some 108) hn8
  refine aw_aload_n (i := 0) rfl d_X5_init_44 0 rfl ?_
  refine aw_sipush (v := 168) d_X5_init_45 is_168 ?_
  refine aw_newa (t := 0) (atype := .int) 109 168 (by decide) rfl tw_51 (hn10 109 (by decide) (by decide)) (by decide) xs0 (by decide) (by decide) (by decide) (Nat.le_of_ble_eq_true rfl) (Nat.le_of_ble_eq_true rfl) d_X5_init_48 ?_
  refine aw_putrF (k0 := 6) kc_5 (ss_n hs9 (by decide)) (Nat.le_of_ble_eq_true rfl) tw_441 d_X5_init_50 rfl rfl rfl rfl ?_
  have hs11 := ss_step (k := 109) (t := 0) (n := 168) (c' := 21) (s := 6) (r := some 109) hs9 (by decide)
  have hn12 := nn_step (k := 109) (t := 0) (n := 168) (c := 21) (s := 6) (r := some 109) hn10
  refine aw_aload_n (i := 0) rfl d_X5_init_53 0 rfl ?_
  refine aw_sipush (v := 168) d_X5_init_54 is_168 ?_
  refine aw_newa (t := 0) (atype := .int) 110 168 (by decide) rfl tw_51 (hn12 110 (by decide) (by decide)) (by decide) xs0 (by decide) (by decide) (by decide) (Nat.le_of_ble_eq_true rfl) (Nat.le_of_ble_eq_true rfl) d_X5_init_57 ?_
  refine aw_putrF (k0 := 7) kc_5 (ss_n hs11 (by decide)) (Nat.le_of_ble_eq_true rfl) tw_442 d_X5_init_59 rfl rfl rfl rfl ?_
  have hs13 := ss_step (k := 110) (t := 0) (n := 168) (c' := 21) (s := 7) (r := some 110) hs11 (by decide)
  have hn14 := nn_step (k := 110) (t := 0) (n := 168) (c := 21) (s := 7) (r := some 110) hn12
  refine aw_aload_n (i := 0) rfl d_X5_init_62 0 rfl ?_
  refine aw_sipush (v := 600) d_X5_init_63 is_600 ?_
  refine aw_newa (t := 0) (atype := .int) 111 600 (by decide) rfl tw_51 (hn14 111 (by decide) (by decide)) (by decide) xs0 (by decide) (by decide) (by decide) (Nat.le_of_ble_eq_true rfl) (Nat.le_of_ble_eq_true rfl) d_X5_init_66 ?_
  refine aw_putrF (k0 := 8) kc_5 (ss_n hs13 (by decide)) (Nat.le_of_ble_eq_true rfl) tw_443 d_X5_init_68 rfl rfl rfl rfl ?_
  have hs15 := ss_step (k := 111) (t := 0) (n := 600) (c' := 21) (s := 8) (r := some 111) hs13 (by decide)
  have hn16 := nn_step (k := 111) (t := 0) (n := 600) (c := 21) (s := 8) (r := some 111) hn14
  refine aw_aload_n (i := 0) rfl d_X5_init_71 0 rfl ?_
  refine aw_sipush (v := 600) d_X5_init_72 is_600 ?_
  refine aw_newa (t := 0) (atype := .int) 112 600 (by decide) rfl tw_51 (hn16 112 (by decide) (by decide)) (by decide) xs0 (by decide) (by decide) (by decide) (Nat.le_of_ble_eq_true rfl) (Nat.le_of_ble_eq_true rfl) d_X5_init_75 ?_
  refine aw_putrF (k0 := 9) kc_5 (ss_n hs15 (by decide)) (Nat.le_of_ble_eq_true rfl) tw_444 d_X5_init_77 rfl rfl rfl rfl ?_
  have hs17 := ss_step (k := 112) (t := 0) (n := 600) (c' := 21) (s := 9) (r := some 112) hs15 (by decide)
  have hn18 := nn_step (k := 112) (t := 0) (n := 600) (c := 21) (s := 9) (r := some 112) hn16
  refine aw_aload_n (i := 0) rfl d_X5_init_80 0 rfl ?_
  refine aw_sipush (v := 600) d_X5_init_81 is_600 ?_
  refine aw_newa (t := 0) (atype := .int) 113 600 (by decide) rfl tw_51 (hn18 113 (by decide) (by decide)) (by decide) xs0 (by decide) (by decide) (by decide) (Nat.le_of_ble_eq_true rfl) (Nat.le_of_ble_eq_true rfl) d_X5_init_84 ?_
  refine aw_putrF (k0 := 10) kc_5 (ss_n hs17 (by decide)) (Nat.le_of_ble_eq_true rfl) tw_445 d_X5_init_86 rfl rfl rfl rfl ?_
  have hs19 := ss_step (k := 113) (t := 0) (n := 600) (c' := 21) (s := 10) (r := some 113) hs17 (by decide)
  have hn20 := nn_step (k := 113) (t := 0) (n := 600) (c := 21) (s := 10) (r := some 113) hn18
  refine aw_aload_n (i := 0) rfl d_X5_init_89 0 rfl ?_
  refine aw_sipush (v := 600) d_X5_init_90 is_600 ?_
  refine aw_newa (t := 0) (atype := .int) 114 600 (by decide) rfl tw_51 (hn20 114 (by decide) (by decide)) (by decide) xs0 (by decide) (by decide) (by decide) (Nat.le_of_ble_eq_true rfl) (Nat.le_of_ble_eq_true rfl) d_X5_init_93 ?_
  refine aw_putrF (k0 := 11) kc_5 (ss_n hs19 (by decide)) (Nat.le_of_ble_eq_true rfl) tw_446 d_X5_init_95 rfl rfl rfl rfl ?_
  have hs21 := ss_step (k := 114) (t := 0) (n := 600) (c' := 21) (s := 11) (r := some 114) hs19 (by decide)
  have hn22 := nn_step (k := 114) (t := 0) (n := 600) (c := 21) (s := 11) (r := some 114) hn20
  refine aw_aload_n (i := 0) rfl d_X5_init_98 0 rfl ?_
  refine aw_bipush (v := 48) d_X5_init_99 ib_48 ?_
  refine aw_newa (t := 0) (atype := .int) 115 48 (by decide) rfl tw_51 (hn22 115 (by decide) (by decide)) (by decide) xs0 (by decide) (by decide) (by decide) (Nat.le_of_ble_eq_true rfl) (Nat.le_of_ble_eq_true rfl) d_X5_init_101 ?_
  refine aw_putrF (k0 := 14) kc_5 (ss_n hs21 (by decide)) (Nat.le_of_ble_eq_true rfl) tw_451 d_X5_init_103 rfl rfl rfl rfl ?_
  have hs23 := ss_step (k := 115) (t := 0) (n := 48) (c' := 21) (s := 14) (r := some 115) hs21 (by decide)
  have hn24 := nn_step (k := 115) (t := 0) (n := 48) (c := 21) (s := 14) (r := some 115) hn22
  refine aw_aload_n (i := 0) rfl d_X5_init_106 0 rfl ?_
  refine aw_iconst (v := 3) d_X5_init_107 ic_3 ?_
  refine aw_puti (k0 := 15) kc_5 hs23 (Nat.le_of_ble_eq_true rfl) tw_452 d_X5_init_108 rfl rfl nf_i ?_
  have hs25 := ss_im (a := 21) (k := 15) (x := 3) hs23
  have hn26 := nn_im (b := 21) (k := 15) (x := 3) hn24
  refine aw_aload_n (i := 0) rfl d_X5_init_111 0 rfl ?_
  refine aw_getr (k0 := 14) (b := 115) kc_5 hs25 (Nat.le_of_ble_eq_true rfl) tw_451 d_X5_init_112 rfl rfl ?_
  refine aw_iconst (v := (-1)) d_X5_init_115 ic_m1 ?_
  refine aw_Sv [.ref 115, .int (-1)] [] d_X5_init_116 (cS_J7_fill_53178 (d + 0) 0 0) tw_433 rfl (rr1 (by decide) (by decide) (Nat.le_of_ble_eq_true rfl) (Nat.le_of_ble_eq_true rfl)) (by decide) xs0 (s_J7_fill d _ 115 48 (-1) rfl (by decide)) (fun h9 kk => ?_)
  subst kk
  exact aw_vret rfl d_X5_init_119 ⟨Nat.le_of_ble_eq_true rfl, Nat.le_of_ble_eq_true rfl⟩ ⟨rfl, rfl⟩
set_option maxRecDepth 100000 in
def CH_401 (h : Hp_) (x1 : Int32) (x2 : Int32) (x3 : Int32) (x4 : Int32) : Hp_ := h_im (h_im (h_im (h_im (h_im (h_im (h_im (h_im h 401 4 0) 401 5 (-1)) 401 6 (-1)) 401 7 (-1)) 401 0 x1) 401 1 x2) 401 2 x3) 401 3 x4
set_option maxRecDepth 100000 in
theorem k_X2_init_401 (d : Nat) (h : Hp_) (x1 : Int32) (x2 : Int32) (x3 : Int32) (x4 : Int32) (hs : h_sh h 401 = some (12, 17)) (hn : ∀ a, 0 ≤ a → a < 0 → h_sh h a = none) : Cv (m_X2_init (d + 1) 0 0) [.ref 401, .int x1, .int x2, .int x3, .int x4] h (fun h' => h' = CH_401 h x1 x2 x3 x4) := by
  refine Ct.of (fun _ _ _ => trivial) rfl (Nat.le_of_ble_eq_true rfl) ?_
  show AW (m_X2_init (d + 1) 0 0) 0 0 0 [(0, .ref 401), (1, .int x1), (2, .int x2), (3, .int x3), (4, .int x4)] [] h (kV _)
  refine aw_aload_n (i := 0) rfl d_X2_init_0 0 rfl ?_
  refine aw_objInit (rest := []) d_X2_init_1 tw_570 tw_33 tw_34 (show 1 ≤ d + 1 by omega) (show 0 + 12 ≤ 100 * (d + 1) by omega) ?_
  refine aw_aload_n (i := 0) rfl d_X2_init_4 0 rfl ?_
  refine aw_iconst (v := 0) d_X2_init_5 ic_0 ?_
  refine aw_puti (k0 := 4) kc_2 hs (Nat.le_of_ble_eq_true rfl) tw_580 d_X2_init_6 rfl rfl nf_i ?_
  have hs1 := ss_im (a := 401) (k := 4) (x := 0) hs
  have hn2 := nn_im (b := 401) (k := 4) (x := 0) hn
  refine aw_aload_n (i := 0) rfl d_X2_init_9 0 rfl ?_
  refine aw_iconst (v := (-1)) d_X2_init_10 ic_m1 ?_
  refine aw_puti (k0 := 5) kc_2 hs1 (Nat.le_of_ble_eq_true rfl) tw_582 d_X2_init_11 rfl rfl nf_i ?_
  have hs3 := ss_im (a := 401) (k := 5) (x := (-1)) hs1
  have hn4 := nn_im (b := 401) (k := 5) (x := (-1)) hn2
  refine aw_aload_n (i := 0) rfl d_X2_init_14 0 rfl ?_
  refine aw_iconst (v := (-1)) d_X2_init_15 ic_m1 ?_
  refine aw_puti (k0 := 6) kc_2 hs3 (Nat.le_of_ble_eq_true rfl) tw_584 d_X2_init_16 rfl rfl nf_i ?_
  have hs5 := ss_im (a := 401) (k := 6) (x := (-1)) hs3
  have hn6 := nn_im (b := 401) (k := 6) (x := (-1)) hn4
  refine aw_aload_n (i := 0) rfl d_X2_init_19 0 rfl ?_
  refine aw_iconst (v := (-1)) d_X2_init_20 ic_m1 ?_
  refine aw_puti (k0 := 7) kc_2 hs5 (Nat.le_of_ble_eq_true rfl) tw_586 d_X2_init_21 rfl rfl nf_i ?_
  have hs7 := ss_im (a := 401) (k := 7) (x := (-1)) hs5
  have hn8 := nn_im (b := 401) (k := 7) (x := (-1)) hn6
  refine aw_aload_n (i := 0) rfl d_X2_init_24 0 rfl ?_
  refine aw_iload_n (i := 1) rfl d_X2_init_25 1 rfl ?_
  refine aw_putiF (k0 := 0) kc_2 hs7 (Nat.le_of_ble_eq_true rfl) tw_571 d_X2_init_26 rfl rfl rfl rfl nf_i ?_
  have hs9 := ss_im (a := 401) (k := 0) (x := x1) hs7
  have hn10 := nn_im (b := 401) (k := 0) (x := x1) hn8
  refine aw_aload_n (i := 0) rfl d_X2_init_29 0 rfl ?_
  refine aw_iload_n (i := 2) rfl d_X2_init_30 2 rfl ?_
  refine aw_putiF (k0 := 1) kc_2 hs9 (Nat.le_of_ble_eq_true rfl) tw_574 d_X2_init_31 rfl rfl rfl rfl nf_i ?_
  have hs11 := ss_im (a := 401) (k := 1) (x := x2) hs9
  have hn12 := nn_im (b := 401) (k := 1) (x := x2) hn10
  refine aw_aload_n (i := 0) rfl d_X2_init_34 0 rfl ?_
  refine aw_iload_n (i := 3) rfl d_X2_init_35 3 rfl ?_
  refine aw_putiF (k0 := 2) kc_2 hs11 (Nat.le_of_ble_eq_true rfl) tw_576 d_X2_init_36 rfl rfl rfl rfl nf_i ?_
  have hs13 := ss_im (a := 401) (k := 2) (x := x3) hs11
  have hn14 := nn_im (b := 401) (k := 2) (x := x3) hn12
  refine aw_aload_n (i := 0) rfl d_X2_init_39 0 rfl ?_
  refine aw_iload d_X2_init_40 4 rfl ?_
  refine aw_putiF (k0 := 3) kc_2 hs13 (Nat.le_of_ble_eq_true rfl) tw_578 d_X2_init_42 rfl rfl rfl rfl nf_i ?_
  have hs15 := ss_im (a := 401) (k := 3) (x := x4) hs13
  have hn16 := nn_im (b := 401) (k := 3) (x := x4) hn14
  exact aw_vret rfl d_X2_init_45 ⟨Nat.le_of_ble_eq_true rfl, Nat.le_of_ble_eq_true rfl⟩ ⟨rfl, rfl⟩
