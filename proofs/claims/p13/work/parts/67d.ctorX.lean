def hE : Hp_ := (fun _ => none, fun _ _ => 0, fun _ _ => 0, fun _ _ => none)
def G0 : Hp_ := h_nw hE 0 21 16
theorem rng_none {h : Hp_} {lo hi : Nat} (hc : (List.range (hi - lo)).all (fun i => (h_sh h (lo + i)).isNone) = true) : ∀ a, lo ≤ a → a < hi → h_sh h a = none := by
  intro a h1 h2
  have z := List.all_eq_true.mp hc (a - lo) (List.mem_range.mpr (by omega))
  rw [show lo + (a - lo) = a from by omega] at z
  exact Option.isNone_iff_eq_none.mp z
def G1 : Hp_ := h_nw G0 10 19 2
def G2 : Hp_ := CH_10 G1
def G3 : Hp_ := h_rm G2 0 1 (some 10)
def G4 : Hp_ := h_nw G3 11 18 10
def G5 : Hp_ := CH_11 G4
def G6 : Hp_ := h_rm G5 0 2 (some 11)
def G7 : Hp_ := h_nw G6 12 10 4
def G8 : Hp_ := CH_12 G7
def G9 : Hp_ := h_rm G8 0 3 (some 12)
def G10 : Hp_ := h_nw G9 13 20 6
def G11 : Hp_ := CH_13 G10
def G12 : Hp_ := h_rm G11 0 4 (some 13)
def G13 : Hp_ := h_nw G12 14 20 6
def G14 : Hp_ := CH_14 G13
def G15 : Hp_ := h_rm G14 0 5 (some 14)
def G16 : Hp_ := h_nw G15 15 4 12
def G17 : Hp_ := h_rm G16 0 6 (some 15)
def G18 : Hp_ := h_nw G17 16 17 12
def G19 : Hp_ := CH_16 G18
def G20 : Hp_ := h_rm G19 0 8 (some 16)
def G21 : Hp_ := h_nw G20 17 14 17
def G22 : Hp_ := CH_17 G21
def G23 : Hp_ := h_rm G22 0 9 (some 17)
def G24 : Hp_ := h_nw G23 18 11 16
def G25 : Hp_ := CH_18 G24
def G26 : Hp_ := h_rm G25 0 10 (some 18)
def G27 : Hp_ := h_nw G26 19 13 11
def G28 : Hp_ := CH_19 G27
def G29 : Hp_ := h_rm G28 0 11 (some 19)
def G30 : Hp_ := h_nw G29 20 16 20
def G31 : Hp_ := CH_20 G30
def G32 : Hp_ := h_rm G31 0 12 (some 20)
def G33 : Hp_ := h_nw G32 21 15 16
def G34 : Hp_ := CH_21 G33
def G35 : Hp_ := h_rm G34 0 13 (some 21)
def G36 : Hp_ := h_nw G35 400 3 0
def G37 : Hp_ := h_rm G36 0 15 (some 400)
theorem k_X11_init_0 (d : Nat) : Cv (m_X11_init (d + 2) 99 30357) [.ref 0] G0 (fun h' => h' = G37) := by
  refine Ct.of (fun _ _ _ => trivial) rfl (Nat.le_of_ble_eq_true rfl) ?_
  show AW (m_X11_init (d + 2) 99 30357) 0 0 0 [(0, .ref 0)] [] G0 (kV _)
  refine aw_aload_n (i := 0) rfl d_X11_init_0 0 rfl ?_
  refine aw_objInit (rest := []) d_X11_init_1 tw_32 tw_33 tw_34 (show 1 ≤ d + 2 by omega) (show 0 + 12 ≤ 100 * (d + 2) by omega) ?_
  refine aw_aload_n (i := 0) rfl d_X11_init_4 0 rfl ?_
  refine aw_new (ci := 9) 10 kc_9 tw_35 tw_36 tw_2 (by decide +kernel) (by decide) xs0 (show 0 + 1 ≤ 99 from by decide +kernel) (show 0 + 2 ≤ 30357 from by decide +kernel) d_X11_init_5 ?_
  show AW (m_X11_init (d + 2) 99 30357) 1 2 8 [(0, .ref 0)] [.ref 10, .ref 0] G1 (kV _)
  refine aw_dup d_X11_init_8 rfl ?_
  refine aw_callI (vs := []) (a := 10) (rest := [.ref 10, .ref 0]) d_X11_init_9 (cI_X9_init (d + 1) 1 256) ⟨rfl, rfl⟩ tw_38 tw_37 rfl ⟨show d + 1 + 1 ≤ d + 2 by omega, show 8 + (2 + 11) + 100 * (d + 1) ≤ 100 * (d + 2) by omega⟩ (by decide) ⟨show 1 + 1 ≤ 99 from by decide +kernel, show 2 + 256 ≤ 30357 from by decide +kernel⟩ xs0 (k_X9_init_10 d G1 (by decide +kernel) (rng_none (by decide +kernel))) (fun v h9 kk => ?_)
  obtain ⟨rfl, rfl⟩ := kk
  show AW (m_X11_init (d + 2) 99 30357) 2 258 12 [(0, .ref 0)] [.ref 10, .ref 0] G2 (kV _)
  refine aw_putrF (k0 := 1) kc_11 (by decide +kernel) (Nat.le_of_ble_eq_true rfl) tw_488 d_X11_init_12 rfl rfl rfl rfl ?_
  show AW (m_X11_init (d + 2) 99 30357) 2 258 15 [(0, .ref 0)] [] G3 (kV _)
  refine aw_aload_n (i := 0) rfl d_X11_init_15 0 rfl ?_
  refine aw_new (ci := 8) 11 kc_8 tw_52 tw_53 tw_3 (by decide +kernel) (by decide) xs0 (show 2 + 1 ≤ 99 from by decide +kernel) (show 258 + 10 ≤ 30357 from by decide +kernel) d_X11_init_16 ?_
  show AW (m_X11_init (d + 2) 99 30357) 3 268 19 [(0, .ref 0)] [.ref 11, .ref 0] G4 (kV _)
  refine aw_dup d_X11_init_19 rfl ?_
  refine aw_callIN (vs := []) (a := 11) (rest := [.ref 11, .ref 0]) d_X11_init_20 (cI_X8_init (d + 1) 3 474) ⟨rfl, rfl⟩ tw_55 (List.mem_of_getElem? (i := 0) rfl) rfl ⟨show d + 1 + 1 ≤ d + 2 by omega, show 8 + (1 + 11) + 100 * (d + 1) ≤ 100 * (d + 2) by omega⟩ (by decide) ⟨show 3 + 3 ≤ 99 from by decide +kernel, show 268 + 474 ≤ 30357 from by decide +kernel⟩ xs0 (k_X8_init_11 d G4 (by decide +kernel) (rng_none (by decide +kernel))) (fun v h9 kk => ?_)
  obtain ⟨rfl, rfl⟩ := kk
  show AW (m_X11_init (d + 2) 99 30357) 6 742 23 [(0, .ref 0)] [.ref 11, .ref 0] G5 (kV _)
  refine aw_putrF (k0 := 2) kc_11 (by decide +kernel) (Nat.le_of_ble_eq_true rfl) tw_489 d_X11_init_23 rfl rfl rfl rfl ?_
  show AW (m_X11_init (d + 2) 99 30357) 6 742 26 [(0, .ref 0)] [] G6 (kV _)
  refine aw_aload_n (i := 0) rfl d_X11_init_26 0 rfl ?_
  refine aw_new (ci := 0) 12 kc_0 tw_97 tw_98 tw_4 (by decide +kernel) (by decide) xs0 (show 6 + 1 ≤ 99 from by decide +kernel) (show 742 + 4 ≤ 30357 from by decide +kernel) d_X11_init_27 ?_
  show AW (m_X11_init (d + 2) 99 30357) 7 746 30 [(0, .ref 0)] [.ref 12, .ref 0] G7 (kV _)
  refine aw_dup d_X11_init_30 rfl ?_
  refine aw_callIN (vs := []) (a := 12) (rest := [.ref 12, .ref 0]) d_X11_init_31 (cI_X0_init (d + 1) 3 1824) ⟨rfl, rfl⟩ tw_100 (List.mem_of_getElem? (i := 1) rfl) rfl ⟨show d + 1 + 1 ≤ d + 2 by omega, show 8 + (1 + 11) + 100 * (d + 1) ≤ 100 * (d + 2) by omega⟩ (by decide) ⟨show 7 + 3 ≤ 99 from by decide +kernel, show 746 + 1824 ≤ 30357 from by decide +kernel⟩ xs0 (k_X0_init_12 d G7 (by decide +kernel) (rng_none (by decide +kernel))) (fun v h9 kk => ?_)
  obtain ⟨rfl, rfl⟩ := kk
  show AW (m_X11_init (d + 2) 99 30357) 10 2570 34 [(0, .ref 0)] [.ref 12, .ref 0] G8 (kV _)
  refine aw_putrF (k0 := 3) kc_11 (by decide +kernel) (Nat.le_of_ble_eq_true rfl) tw_490 d_X11_init_34 rfl rfl rfl rfl ?_
  show AW (m_X11_init (d + 2) 99 30357) 10 2570 37 [(0, .ref 0)] [] G9 (kV _)
  refine aw_aload_n (i := 0) rfl d_X11_init_37 0 rfl ?_
  refine aw_new (ci := 10) 13 kc_10 tw_118 tw_119 tw_5 (by decide +kernel) (by decide) xs0 (show 10 + 1 ≤ 99 from by decide +kernel) (show 2570 + 6 ≤ 30357 from by decide +kernel) d_X11_init_38 ?_
  show AW (m_X11_init (d + 2) 99 30357) 11 2576 41 [(0, .ref 0)] [.ref 13, .ref 0] G10 (kV _)
  refine aw_dup d_X11_init_41 rfl ?_
  refine aw_callIN (vs := []) (a := 13) (rest := [.ref 13, .ref 0]) d_X11_init_42 (cI_X10_init (d + 1) 5 3504) ⟨rfl, rfl⟩ tw_121 (List.mem_of_getElem? (i := 2) rfl) rfl ⟨show d + 1 + 1 ≤ d + 2 by omega, show 8 + (1 + 11) + 100 * (d + 1) ≤ 100 * (d + 2) by omega⟩ (by decide) ⟨show 11 + 5 ≤ 99 from by decide +kernel, show 2576 + 3504 ≤ 30357 from by decide +kernel⟩ xs0 (k_X10_init_13 d G10 (by decide +kernel) (rng_none (by decide +kernel))) (fun v h9 kk => ?_)
  obtain ⟨rfl, rfl⟩ := kk
  show AW (m_X11_init (d + 2) 99 30357) 16 6080 45 [(0, .ref 0)] [.ref 13, .ref 0] G11 (kV _)
  refine aw_putrF (k0 := 4) kc_11 (by decide +kernel) (Nat.le_of_ble_eq_true rfl) tw_491 d_X11_init_45 rfl rfl rfl rfl ?_
  show AW (m_X11_init (d + 2) 99 30357) 16 6080 48 [(0, .ref 0)] [] G12 (kV _)
  refine aw_aload_n (i := 0) rfl d_X11_init_48 0 rfl ?_
  refine aw_new (ci := 10) 14 kc_10 tw_118 tw_119 tw_5 (by decide +kernel) (by decide) xs0 (show 16 + 1 ≤ 99 from by decide +kernel) (show 6080 + 6 ≤ 30357 from by decide +kernel) d_X11_init_49 ?_
  show AW (m_X11_init (d + 2) 99 30357) 17 6086 52 [(0, .ref 0)] [.ref 14, .ref 0] G13 (kV _)
  refine aw_dup d_X11_init_52 rfl ?_
  refine aw_callIN (vs := []) (a := 14) (rest := [.ref 14, .ref 0]) d_X11_init_53 (cI_X10_init (d + 1) 5 3504) ⟨rfl, rfl⟩ tw_121 (List.mem_of_getElem? (i := 2) rfl) rfl ⟨show d + 1 + 1 ≤ d + 2 by omega, show 8 + (1 + 11) + 100 * (d + 1) ≤ 100 * (d + 2) by omega⟩ (by decide) ⟨show 17 + 5 ≤ 99 from by decide +kernel, show 6086 + 3504 ≤ 30357 from by decide +kernel⟩ xs0 (k_X10_init_14 d G13 (by decide +kernel) (rng_none (by decide +kernel))) (fun v h9 kk => ?_)
  obtain ⟨rfl, rfl⟩ := kk
  show AW (m_X11_init (d + 2) 99 30357) 22 9590 56 [(0, .ref 0)] [.ref 14, .ref 0] G14 (kV _)
  refine aw_putrF (k0 := 5) kc_11 (by decide +kernel) (Nat.le_of_ble_eq_true rfl) tw_492 d_X11_init_56 rfl rfl rfl rfl ?_
  show AW (m_X11_init (d + 2) 99 30357) 22 9590 59 [(0, .ref 0)] [] G15 (kV _)
  refine aw_aload_n (i := 0) rfl d_X11_init_59 0 rfl ?_
  refine aw_bipush (v := 12) d_X11_init_60 ib_12 ?_
  refine aw_newq 15 12 tw_144 (by decide +kernel) (by decide) xs0 (by decide) (by decide) (by decide) (show 22 + 1 ≤ 99 from by decide +kernel) (show 9590 + 12 ≤ 30357 from by decide +kernel) d_X11_init_62 ?_
  show AW (m_X11_init (d + 2) 99 30357) 23 9602 65 [(0, .ref 0)] [.ref 15, .ref 0] G16 (kV _)
  refine aw_putrF (k0 := 6) kc_11 (by decide +kernel) (Nat.le_of_ble_eq_true rfl) tw_493 d_X11_init_65 rfl rfl rfl rfl ?_
  show AW (m_X11_init (d + 2) 99 30357) 23 9602 68 [(0, .ref 0)] [] G17 (kV _)
  refine aw_aload_n (i := 0) rfl d_X11_init_68 0 rfl ?_
  refine aw_new (ci := 7) 16 kc_7 tw_146 tw_147 tw_6 (by decide +kernel) (by decide) xs0 (show 23 + 1 ≤ 99 from by decide +kernel) (show 9602 + 12 ≤ 30357 from by decide +kernel) d_X11_init_69 ?_
  show AW (m_X11_init (d + 2) 99 30357) 24 9614 72 [(0, .ref 0)] [.ref 16, .ref 0] G18 (kV _)
  refine aw_dup d_X11_init_72 rfl ?_
  refine aw_callIN (vs := []) (a := 16) (rest := [.ref 16, .ref 0]) d_X11_init_73 (cI_X7_init (d + 1) 10 3400) ⟨rfl, rfl⟩ tw_149 (List.mem_of_getElem? (i := 3) rfl) rfl ⟨show d + 1 + 1 ≤ d + 2 by omega, show 8 + (1 + 11) + 100 * (d + 1) ≤ 100 * (d + 2) by omega⟩ (by decide) ⟨show 24 + 10 ≤ 99 from by decide +kernel, show 9614 + 3400 ≤ 30357 from by decide +kernel⟩ xs0 (k_X7_init_16 d G18 (by decide +kernel) (rng_none (by decide +kernel))) (fun v h9 kk => ?_)
  obtain ⟨rfl, rfl⟩ := kk
  show AW (m_X11_init (d + 2) 99 30357) 34 13014 76 [(0, .ref 0)] [.ref 16, .ref 0] G19 (kV _)
  refine aw_putrF (k0 := 8) kc_11 (by decide +kernel) (Nat.le_of_ble_eq_true rfl) tw_495 d_X11_init_76 rfl rfl rfl rfl ?_
  show AW (m_X11_init (d + 2) 99 30357) 34 13014 79 [(0, .ref 0)] [] G20 (kV _)
  refine aw_aload_n (i := 0) rfl d_X11_init_79 0 rfl ?_
  refine aw_new (ci := 4) 17 kc_4 tw_190 tw_191 tw_7 (by decide +kernel) (by decide) xs0 (show 34 + 1 ≤ 99 from by decide +kernel) (show 13014 + 17 ≤ 30357 from by decide +kernel) d_X11_init_80 ?_
  show AW (m_X11_init (d + 2) 99 30357) 35 13031 83 [(0, .ref 0)] [.ref 17, .ref 0] G21 (kV _)
  refine aw_dup d_X11_init_83 rfl ?_
  refine aw_callIN (vs := []) (a := 17) (rest := [.ref 17, .ref 0]) d_X11_init_84 (cI_X4_init (d + 1) 14 5060) ⟨rfl, rfl⟩ tw_193 (List.mem_of_getElem? (i := 4) rfl) rfl ⟨show d + 1 + 1 ≤ d + 2 by omega, show 8 + (1 + 11) + 100 * (d + 1) ≤ 100 * (d + 2) by omega⟩ (by decide) ⟨show 35 + 14 ≤ 99 from by decide +kernel, show 13031 + 5060 ≤ 30357 from by decide +kernel⟩ xs0 (k_X4_init_17 d G21 (by decide +kernel) (rng_none (by decide +kernel))) (fun v h9 kk => ?_)
  obtain ⟨rfl, rfl⟩ := kk
  show AW (m_X11_init (d + 2) 99 30357) 49 18091 87 [(0, .ref 0)] [.ref 17, .ref 0] G22 (kV _)
  refine aw_putrF (k0 := 9) kc_11 (by decide +kernel) (Nat.le_of_ble_eq_true rfl) tw_496 d_X11_init_87 rfl rfl rfl rfl ?_
  show AW (m_X11_init (d + 2) 99 30357) 49 18091 90 [(0, .ref 0)] [] G23 (kV _)
  refine aw_aload_n (i := 0) rfl d_X11_init_90 0 rfl ?_
  refine aw_new (ci := 1) 18 kc_1 tw_253 tw_254 tw_8 (by decide +kernel) (by decide) xs0 (show 49 + 1 ≤ 99 from by decide +kernel) (show 18091 + 16 ≤ 30357 from by decide +kernel) d_X11_init_91 ?_
  show AW (m_X11_init (d + 2) 99 30357) 50 18107 94 [(0, .ref 0)] [.ref 18, .ref 0] G24 (kV _)
  refine aw_dup d_X11_init_94 rfl ?_
  refine aw_callI (vs := []) (a := 18) (rest := [.ref 18, .ref 0]) d_X11_init_95 (cI_X1_init (d + 1) 14 1110) ⟨rfl, rfl⟩ tw_256 tw_255 rfl ⟨show d + 1 + 1 ≤ d + 2 by omega, show 8 + (1 + 11) + 100 * (d + 1) ≤ 100 * (d + 2) by omega⟩ (by decide) ⟨show 50 + 14 ≤ 99 from by decide +kernel, show 18107 + 1110 ≤ 30357 from by decide +kernel⟩ xs0 (k_X1_init_18 d G24 (by decide +kernel) (rng_none (by decide +kernel))) (fun v h9 kk => ?_)
  obtain ⟨rfl, rfl⟩ := kk
  show AW (m_X11_init (d + 2) 99 30357) 64 19217 98 [(0, .ref 0)] [.ref 18, .ref 0] G25 (kV _)
  refine aw_putrF (k0 := 10) kc_11 (by decide +kernel) (Nat.le_of_ble_eq_true rfl) tw_497 d_X11_init_98 rfl rfl rfl rfl ?_
  show AW (m_X11_init (d + 2) 99 30357) 64 19217 101 [(0, .ref 0)] [] G26 (kV _)
  refine aw_aload_n (i := 0) rfl d_X11_init_101 0 rfl ?_
  refine aw_new (ci := 3) 19 kc_3 tw_315 tw_316 tw_10 (by decide +kernel) (by decide) xs0 (show 64 + 1 ≤ 99 from by decide +kernel) (show 19217 + 11 ≤ 30357 from by decide +kernel) d_X11_init_102 ?_
  show AW (m_X11_init (d + 2) 99 30357) 65 19228 105 [(0, .ref 0)] [.ref 19, .ref 0] G27 (kV _)
  refine aw_dup d_X11_init_105 rfl ?_
  refine aw_callIN (vs := []) (a := 19) (rest := [.ref 19, .ref 0]) d_X11_init_106 (cI_X3_init (d + 1) 7 4704) ⟨rfl, rfl⟩ tw_318 (List.mem_of_getElem? (i := 5) rfl) rfl ⟨show d + 1 + 1 ≤ d + 2 by omega, show 8 + (1 + 11) + 100 * (d + 1) ≤ 100 * (d + 2) by omega⟩ (by decide) ⟨show 65 + 7 ≤ 99 from by decide +kernel, show 19228 + 4704 ≤ 30357 from by decide +kernel⟩ xs0 (k_X3_init_19 d G27 (by decide +kernel) (rng_none (by decide +kernel))) (fun v h9 kk => ?_)
  obtain ⟨rfl, rfl⟩ := kk
  show AW (m_X11_init (d + 2) 99 30357) 72 23932 109 [(0, .ref 0)] [.ref 19, .ref 0] G28 (kV _)
  refine aw_putrF (k0 := 11) kc_11 (by decide +kernel) (Nat.le_of_ble_eq_true rfl) tw_498 d_X11_init_109 rfl rfl rfl rfl ?_
  show AW (m_X11_init (d + 2) 99 30357) 72 23932 112 [(0, .ref 0)] [] G29 (kV _)
  refine aw_aload_n (i := 0) rfl d_X11_init_112 0 rfl ?_
  refine aw_new (ci := 6) 20 kc_6 tw_357 tw_358 tw_11 (by decide +kernel) (by decide) xs0 (show 72 + 1 ≤ 99 from by decide +kernel) (show 23932 + 20 ≤ 30357 from by decide +kernel) d_X11_init_113 ?_
  show AW (m_X11_init (d + 2) 99 30357) 73 23952 116 [(0, .ref 0)] [.ref 20, .ref 0] G30 (kV _)
  refine aw_dup d_X11_init_116 rfl ?_
  refine aw_callIN (vs := []) (a := 20) (rest := [.ref 20, .ref 0]) d_X11_init_117 (cI_X6_init (d + 1) 12 3439) ⟨rfl, rfl⟩ tw_360 (List.mem_of_getElem? (i := 6) rfl) rfl ⟨show d + 1 + 1 ≤ d + 2 by omega, show 8 + (1 + 11) + 100 * (d + 1) ≤ 100 * (d + 2) by omega⟩ (by decide) ⟨show 73 + 12 ≤ 99 from by decide +kernel, show 23952 + 3439 ≤ 30357 from by decide +kernel⟩ xs0 (k_X6_init_20 d G30 (by decide +kernel) (rng_none (by decide +kernel))) (fun v h9 kk => ?_)
  obtain ⟨rfl, rfl⟩ := kk
  show AW (m_X11_init (d + 2) 99 30357) 85 27391 120 [(0, .ref 0)] [.ref 20, .ref 0] G31 (kV _)
  refine aw_putrF (k0 := 12) kc_11 (by decide +kernel) (Nat.le_of_ble_eq_true rfl) tw_499 d_X11_init_120 rfl rfl rfl rfl ?_
  show AW (m_X11_init (d + 2) 99 30357) 85 27391 123 [(0, .ref 0)] [] G32 (kV _)
  refine aw_aload_n (i := 0) rfl d_X11_init_123 0 rfl ?_
  refine aw_new (ci := 5) 21 kc_5 tw_427 tw_428 tw_12 (by decide +kernel) (by decide) xs0 (show 85 + 1 ≤ 99 from by decide +kernel) (show 27391 + 16 ≤ 30357 from by decide +kernel) d_X11_init_124 ?_
  show AW (m_X11_init (d + 2) 99 30357) 86 27407 127 [(0, .ref 0)] [.ref 21, .ref 0] G33 (kV _)
  refine aw_dup d_X11_init_127 rfl ?_
  refine aw_callI (vs := []) (a := 21) (rest := [.ref 21, .ref 0]) d_X11_init_128 (cI_X5_init (d + 1) 12 2950) ⟨rfl, rfl⟩ tw_430 tw_429 rfl ⟨show d + 1 + 1 ≤ d + 2 by omega, show 8 + (1 + 11) + 100 * (d + 1) ≤ 100 * (d + 2) by omega⟩ (by decide) ⟨show 86 + 12 ≤ 99 from by decide +kernel, show 27407 + 2950 ≤ 30357 from by decide +kernel⟩ xs0 (k_X5_init_21 d G33 (by decide +kernel) (rng_none (by decide +kernel))) (fun v h9 kk => ?_)
  obtain ⟨rfl, rfl⟩ := kk
  show AW (m_X11_init (d + 2) 99 30357) 98 30357 131 [(0, .ref 0)] [.ref 21, .ref 0] G34 (kV _)
  refine aw_putrF (k0 := 13) kc_11 (by decide +kernel) (Nat.le_of_ble_eq_true rfl) tw_500 d_X11_init_131 rfl rfl rfl rfl ?_
  show AW (m_X11_init (d + 2) 99 30357) 98 30357 134 [(0, .ref 0)] [] G35 (kV _)
  refine aw_aload_n (i := 0) rfl d_X11_init_134 0 rfl ?_
  refine aw_iconst (v := 0) d_X11_init_135 ic_0 ?_
  refine aw_newa (t := 3) (atype := .long) 400 0 (by decide) rfl tw_426 (by decide +kernel) (by decide) xs0 (by decide) (by decide) (by decide) (show 98 + 1 ≤ 99 from by decide +kernel) (show 30357 + 0 ≤ 30357 from by decide +kernel) d_X11_init_136 ?_
  show AW (m_X11_init (d + 2) 99 30357) 99 30357 138 [(0, .ref 0)] [.ref 400, .ref 0] G36 (kV _)
  refine aw_putr (k0 := 15) kc_11 (by decide +kernel) (Nat.le_of_ble_eq_true rfl) tw_502 d_X11_init_138 rfl rfl ?_
  show AW (m_X11_init (d + 2) 99 30357) 99 30357 141 [(0, .ref 0)] [] G37 (kV _)
  exact aw_vret rfl d_X11_init_141 ⟨show 99 ≤ 99 from Nat.le_refl _, show 30357 ≤ 30357 from Nat.le_refl _⟩ ⟨rfl, rfl⟩
def GM0 : Hp_ := h_nw G37 1 22 131
noncomputable def HF : Hp_ := h_nw (CH_1 GM0) 2 3 1
theorem wHF : Wf HF := by
  have h1 : shL.all (fun q => decide (h_sh HF q.1 = some q.2)) = true := by decide +kernel
  have h2 : rfL.all (fun q => decide (h_r HF q.1 q.2.1 = some q.2.2)) = true := by decide +kernel
  exact ⟨fun q hq => of_decide_eq_true (List.all_eq_true.mp h1 q hq), fun q hq => of_decide_eq_true (List.all_eq_true.mp h2 q hq)⟩
