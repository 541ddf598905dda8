/-! the law's loop, call by call -/
theorem law_exit {L kc ks : Nat} {xs : Nat → Int32} {h : Hp_} {lv : List (Nat × Value)} (hk : kc ≤ 494584 ∧ ks ≤ 7612352) : AW (ML L xs) kc ks 2412 lv [] h k1_ := by
  refine aw_iconst (v := 1) d_L_2412 ic_1 ?_
  exact aw_zret (ty := .boolean) rfl rfl d_L_2413 hk rfl
theorem law_sw {L t N kc ks : Nat} {xs : Nat → Int32} {h : Hp_} (hL : 6 * t + 6 ≤ L) (lL : L ≤ 3072) (L0 : Li N h) (R : Rm t N kc ks) (O : ∀ N kc ks h, Li N h → Rm (t + 1) N kc ks → AW (ML L xs) kc ks 2406 (lv5 (6 * t)) [] h k1_) (sv : Int32) : AW (ML L xs) kc ks 40 (lv5 (6 * t)) [.int sv] h k1_ := by
  by_cases e0 : sv = 0
  · refine aw_tableIn (off := 244) (tgt := 284) d_L_40 (by rw [e0]; decide) (by rw [e0]; decide) (by rw [e0]; decide) rfl ?_
    exact lc_0 hL lL L0 R O
  by_cases e1 : sv = 1
  · refine aw_tableIn (off := 293) (tgt := 333) d_L_40 (by rw [e1]; decide) (by rw [e1]; decide) (by rw [e1]; decide) rfl ?_
    exact lc_1 hL lL L0 R O
  by_cases e2 : sv = 2
  · refine aw_tableIn (off := 330) (tgt := 370) d_L_40 (by rw [e2]; decide) (by rw [e2]; decide) (by rw [e2]; decide) rfl ?_
    exact lc_2 hL lL L0 R O
  by_cases e3 : sv = 3
  · refine aw_tableIn (off := 379) (tgt := 419) d_L_40 (by rw [e3]; decide) (by rw [e3]; decide) (by rw [e3]; decide) rfl ?_
    exact lc_3 hL lL L0 R O
  by_cases e4 : sv = 4
  · refine aw_tableIn (off := 452) (tgt := 492) d_L_40 (by rw [e4]; decide) (by rw [e4]; decide) (by rw [e4]; decide) rfl ?_
    exact lc_4 hL lL L0 R O
  by_cases e5 : sv = 5
  · refine aw_tableIn (off := 477) (tgt := 517) d_L_40 (by rw [e5]; decide) (by rw [e5]; decide) (by rw [e5]; decide) rfl ?_
    exact lc_5 hL lL L0 R O
  by_cases e6 : sv = 6
  · refine aw_tableIn (off := 502) (tgt := 542) d_L_40 (by rw [e6]; decide) (by rw [e6]; decide) (by rw [e6]; decide) rfl ?_
    exact lc_6 hL lL L0 R O
  by_cases e7 : sv = 7
  · refine aw_tableIn (off := 515) (tgt := 555) d_L_40 (by rw [e7]; decide) (by rw [e7]; decide) (by rw [e7]; decide) rfl ?_
    exact lc_7 hL lL L0 R O
  by_cases e8 : sv = 8
  · refine aw_tableIn (off := 552) (tgt := 592) d_L_40 (by rw [e8]; decide) (by rw [e8]; decide) (by rw [e8]; decide) rfl ?_
    exact lc_8 hL lL L0 R O
  by_cases e9 : sv = 9
  · refine aw_tableIn (off := 589) (tgt := 629) d_L_40 (by rw [e9]; decide) (by rw [e9]; decide) (by rw [e9]; decide) rfl ?_
    exact lc_9 hL lL L0 R O
  by_cases e10 : sv = 10
  · refine aw_tableIn (off := 638) (tgt := 678) d_L_40 (by rw [e10]; decide) (by rw [e10]; decide) (by rw [e10]; decide) rfl ?_
    exact lc_10 hL lL L0 R O
  by_cases e11 : sv = 11
  · refine aw_tableIn (off := 691) (tgt := 731) d_L_40 (by rw [e11]; decide) (by rw [e11]; decide) (by rw [e11]; decide) rfl ?_
    exact lc_11 hL lL L0 R O
  by_cases e12 : sv = 12
  · refine aw_tableIn (off := 716) (tgt := 756) d_L_40 (by rw [e12]; decide) (by rw [e12]; decide) (by rw [e12]; decide) rfl ?_
    exact lc_12 hL lL L0 R O
  by_cases e13 : sv = 13
  · refine aw_tableIn (off := 756) (tgt := 796) d_L_40 (by rw [e13]; decide) (by rw [e13]; decide) (by rw [e13]; decide) rfl ?_
    exact lc_13 hL lL L0 R O
  by_cases e14 : sv = 14
  · refine aw_tableIn (off := 793) (tgt := 833) d_L_40 (by rw [e14]; decide) (by rw [e14]; decide) (by rw [e14]; decide) rfl ?_
    exact lc_14 hL lL L0 R O
  by_cases e15 : sv = 15
  · refine aw_tableIn (off := 842) (tgt := 882) d_L_40 (by rw [e15]; decide) (by rw [e15]; decide) (by rw [e15]; decide) rfl ?_
    exact lc_15 hL lL L0 R O
  by_cases e16 : sv = 16
  · refine aw_tableIn (off := 879) (tgt := 919) d_L_40 (by rw [e16]; decide) (by rw [e16]; decide) (by rw [e16]; decide) rfl ?_
    exact lc_16 hL lL L0 R O
  by_cases e17 : sv = 17
  · refine aw_tableIn (off := 916) (tgt := 956) d_L_40 (by rw [e17]; decide) (by rw [e17]; decide) (by rw [e17]; decide) rfl ?_
    exact lc_17 hL lL L0 R O
  by_cases e18 : sv = 18
  · refine aw_tableIn (off := 989) (tgt := 1029) d_L_40 (by rw [e18]; decide) (by rw [e18]; decide) (by rw [e18]; decide) rfl ?_
    exact lc_18 hL lL L0 R O
  by_cases e19 : sv = 19
  · refine aw_tableIn (off := 1014) (tgt := 1054) d_L_40 (by rw [e19]; decide) (by rw [e19]; decide) (by rw [e19]; decide) rfl ?_
    exact lc_19 hL lL L0 R O
  by_cases e20 : sv = 20
  · refine aw_tableIn (off := 1051) (tgt := 1091) d_L_40 (by rw [e20]; decide) (by rw [e20]; decide) (by rw [e20]; decide) rfl ?_
    exact lc_20 hL lL L0 R O
  by_cases e21 : sv = 21
  · refine aw_tableIn (off := 1088) (tgt := 1128) d_L_40 (by rw [e21]; decide) (by rw [e21]; decide) (by rw [e21]; decide) rfl ?_
    exact lc_21 hL lL L0 R O
  by_cases e22 : sv = 22
  · refine aw_tableIn (off := 1125) (tgt := 1165) d_L_40 (by rw [e22]; decide) (by rw [e22]; decide) (by rw [e22]; decide) rfl ?_
    exact lc_22 hL lL L0 R O
  by_cases e23 : sv = 23
  · refine aw_tableIn (off := 1150) (tgt := 1190) d_L_40 (by rw [e23]; decide) (by rw [e23]; decide) (by rw [e23]; decide) rfl ?_
    exact lc_23 hL lL L0 R O
  by_cases e24 : sv = 24
  · refine aw_tableIn (off := 1175) (tgt := 1215) d_L_40 (by rw [e24]; decide) (by rw [e24]; decide) (by rw [e24]; decide) rfl ?_
    exact lc_24 hL lL L0 R O
  by_cases e25 : sv = 25
  · refine aw_tableIn (off := 1212) (tgt := 1252) d_L_40 (by rw [e25]; decide) (by rw [e25]; decide) (by rw [e25]; decide) rfl ?_
    exact lc_25 hL lL L0 R O
  by_cases e26 : sv = 26
  · refine aw_tableIn (off := 1249) (tgt := 1289) d_L_40 (by rw [e26]; decide) (by rw [e26]; decide) (by rw [e26]; decide) rfl ?_
    exact lc_26 hL lL L0 R O
  by_cases e27 : sv = 27
  · refine aw_tableIn (off := 1326) (tgt := 1366) d_L_40 (by rw [e27]; decide) (by rw [e27]; decide) (by rw [e27]; decide) rfl ?_
    exact lc_27 hL lL L0 R O
  by_cases e28 : sv = 28
  · refine aw_tableIn (off := 1351) (tgt := 1391) d_L_40 (by rw [e28]; decide) (by rw [e28]; decide) (by rw [e28]; decide) rfl ?_
    exact lc_28 hL lL L0 R O
  by_cases e29 : sv = 29
  · refine aw_tableIn (off := 1400) (tgt := 1440) d_L_40 (by rw [e29]; decide) (by rw [e29]; decide) (by rw [e29]; decide) rfl ?_
    exact lc_29 hL lL L0 R O
  by_cases e30 : sv = 30
  · refine aw_tableIn (off := 1449) (tgt := 1489) d_L_40 (by rw [e30]; decide) (by rw [e30]; decide) (by rw [e30]; decide) rfl ?_
    exact lc_30 hL lL L0 R O
  by_cases e31 : sv = 31
  · refine aw_tableIn (off := 1498) (tgt := 1538) d_L_40 (by rw [e31]; decide) (by rw [e31]; decide) (by rw [e31]; decide) rfl ?_
    exact lc_31 hL lL L0 R O
  by_cases e32 : sv = 32
  · refine aw_tableIn (off := 1523) (tgt := 1563) d_L_40 (by rw [e32]; decide) (by rw [e32]; decide) (by rw [e32]; decide) rfl ?_
    exact lc_32 hL lL L0 R O
  by_cases e33 : sv = 33
  · refine aw_tableIn (off := 1576) (tgt := 1616) d_L_40 (by rw [e33]; decide) (by rw [e33]; decide) (by rw [e33]; decide) rfl ?_
    exact lc_33 hL lL L0 R O
  by_cases e34 : sv = 34
  · refine aw_tableIn (off := 1601) (tgt := 1641) d_L_40 (by rw [e34]; decide) (by rw [e34]; decide) (by rw [e34]; decide) rfl ?_
    exact lc_34 hL lL L0 R O
  by_cases e35 : sv = 35
  · refine aw_tableIn (off := 1614) (tgt := 1654) d_L_40 (by rw [e35]; decide) (by rw [e35]; decide) (by rw [e35]; decide) rfl ?_
    exact lc_35 hL lL L0 R O
  by_cases e36 : sv = 36
  · refine aw_tableIn (off := 1639) (tgt := 1679) d_L_40 (by rw [e36]; decide) (by rw [e36]; decide) (by rw [e36]; decide) rfl ?_
    exact lc_36 hL lL L0 R O
  by_cases e37 : sv = 37
  · refine aw_tableIn (off := 1664) (tgt := 1704) d_L_40 (by rw [e37]; decide) (by rw [e37]; decide) (by rw [e37]; decide) rfl ?_
    exact lc_37 hL lL L0 R O
  by_cases e38 : sv = 38
  · refine aw_tableIn (off := 1689) (tgt := 1729) d_L_40 (by rw [e38]; decide) (by rw [e38]; decide) (by rw [e38]; decide) rfl ?_
    exact lc_38 hL lL L0 R O
  by_cases e39 : sv = 39
  · refine aw_tableIn (off := 1738) (tgt := 1778) d_L_40 (by rw [e39]; decide) (by rw [e39]; decide) (by rw [e39]; decide) rfl ?_
    exact lc_39 hL lL L0 R O
  by_cases e40 : sv = 40
  · refine aw_tableIn (off := 1775) (tgt := 1815) d_L_40 (by rw [e40]; decide) (by rw [e40]; decide) (by rw [e40]; decide) rfl ?_
    exact lc_40 hL lL L0 R O
  by_cases e41 : sv = 41
  · refine aw_tableIn (off := 1800) (tgt := 1840) d_L_40 (by rw [e41]; decide) (by rw [e41]; decide) (by rw [e41]; decide) rfl ?_
    exact lc_41 hL lL L0 R O
  by_cases e42 : sv = 42
  · refine aw_tableIn (off := 1837) (tgt := 1877) d_L_40 (by rw [e42]; decide) (by rw [e42]; decide) (by rw [e42]; decide) rfl ?_
    exact lc_42 hL lL L0 R O
  by_cases e43 : sv = 43
  · refine aw_tableIn (off := 1886) (tgt := 1926) d_L_40 (by rw [e43]; decide) (by rw [e43]; decide) (by rw [e43]; decide) rfl ?_
    exact lc_43 hL lL L0 R O
  by_cases e44 : sv = 44
  · refine aw_tableIn (off := 1911) (tgt := 1951) d_L_40 (by rw [e44]; decide) (by rw [e44]; decide) (by rw [e44]; decide) rfl ?_
    exact lc_44 hL lL L0 R O
  by_cases e45 : sv = 45
  · refine aw_tableIn (off := 1936) (tgt := 1976) d_L_40 (by rw [e45]; decide) (by rw [e45]; decide) (by rw [e45]; decide) rfl ?_
    exact lc_45 hL lL L0 R O
  by_cases e46 : sv = 46
  · refine aw_tableIn (off := 1947) (tgt := 1987) d_L_40 (by rw [e46]; decide) (by rw [e46]; decide) (by rw [e46]; decide) rfl ?_
    exact lc_46 hL lL L0 R O
  by_cases e47 : sv = 47
  · refine aw_tableIn (off := 1972) (tgt := 2012) d_L_40 (by rw [e47]; decide) (by rw [e47]; decide) (by rw [e47]; decide) rfl ?_
    exact lc_47 hL lL L0 R O
  by_cases e48 : sv = 48
  · refine aw_tableIn (off := 2021) (tgt := 2061) d_L_40 (by rw [e48]; decide) (by rw [e48]; decide) (by rw [e48]; decide) rfl ?_
    exact lc_48 hL lL L0 R O
  by_cases e49 : sv = 49
  · refine aw_tableIn (off := 2070) (tgt := 2110) d_L_40 (by rw [e49]; decide) (by rw [e49]; decide) (by rw [e49]; decide) rfl ?_
    exact lc_49 hL lL L0 R O
  by_cases e50 : sv = 50
  · refine aw_tableIn (off := 2119) (tgt := 2159) d_L_40 (by rw [e50]; decide) (by rw [e50]; decide) (by rw [e50]; decide) rfl ?_
    exact lc_50 hL lL L0 R O
  by_cases e51 : sv = 51
  · refine aw_tableIn (off := 2132) (tgt := 2172) d_L_40 (by rw [e51]; decide) (by rw [e51]; decide) (by rw [e51]; decide) rfl ?_
    exact lc_51 hL lL L0 R O
  by_cases e52 : sv = 52
  · refine aw_tableIn (off := 2169) (tgt := 2209) d_L_40 (by rw [e52]; decide) (by rw [e52]; decide) (by rw [e52]; decide) rfl ?_
    exact lc_52 hL lL L0 R O
  by_cases e53 : sv = 53
  · refine aw_tableIn (off := 2218) (tgt := 2258) d_L_40 (by rw [e53]; decide) (by rw [e53]; decide) (by rw [e53]; decide) rfl ?_
    exact lc_53 hL lL L0 R O
  by_cases e54 : sv = 54
  · refine aw_tableIn (off := 2243) (tgt := 2283) d_L_40 (by rw [e54]; decide) (by rw [e54]; decide) (by rw [e54]; decide) rfl ?_
    exact lc_54 hL lL L0 R O
  by_cases e55 : sv = 55
  · refine aw_tableIn (off := 2280) (tgt := 2320) d_L_40 (by rw [e55]; decide) (by rw [e55]; decide) (by rw [e55]; decide) rfl ?_
    exact lc_55 hL lL L0 R O
  by_cases e56 : sv = 56
  · refine aw_tableIn (off := 2341) (tgt := 2381) d_L_40 (by rw [e56]; decide) (by rw [e56]; decide) (by rw [e56]; decide) rfl ?_
    exact lc_56 hL lL L0 R O
  have n0 := sw_ne (0) (by decide) e0
  have n1 := sw_ne (1) (by decide) e1
  have n2 := sw_ne (2) (by decide) e2
  have n3 := sw_ne (3) (by decide) e3
  have n4 := sw_ne (4) (by decide) e4
  have n5 := sw_ne (5) (by decide) e5
  have n6 := sw_ne (6) (by decide) e6
  have n7 := sw_ne (7) (by decide) e7
  have n8 := sw_ne (8) (by decide) e8
  have n9 := sw_ne (9) (by decide) e9
  have n10 := sw_ne (10) (by decide) e10
  have n11 := sw_ne (11) (by decide) e11
  have n12 := sw_ne (12) (by decide) e12
  have n13 := sw_ne (13) (by decide) e13
  have n14 := sw_ne (14) (by decide) e14
  have n15 := sw_ne (15) (by decide) e15
  have n16 := sw_ne (16) (by decide) e16
  have n17 := sw_ne (17) (by decide) e17
  have n18 := sw_ne (18) (by decide) e18
  have n19 := sw_ne (19) (by decide) e19
  have n20 := sw_ne (20) (by decide) e20
  have n21 := sw_ne (21) (by decide) e21
  have n22 := sw_ne (22) (by decide) e22
  have n23 := sw_ne (23) (by decide) e23
  have n24 := sw_ne (24) (by decide) e24
  have n25 := sw_ne (25) (by decide) e25
  have n26 := sw_ne (26) (by decide) e26
  have n27 := sw_ne (27) (by decide) e27
  have n28 := sw_ne (28) (by decide) e28
  have n29 := sw_ne (29) (by decide) e29
  have n30 := sw_ne (30) (by decide) e30
  have n31 := sw_ne (31) (by decide) e31
  have n32 := sw_ne (32) (by decide) e32
  have n33 := sw_ne (33) (by decide) e33
  have n34 := sw_ne (34) (by decide) e34
  have n35 := sw_ne (35) (by decide) e35
  have n36 := sw_ne (36) (by decide) e36
  have n37 := sw_ne (37) (by decide) e37
  have n38 := sw_ne (38) (by decide) e38
  have n39 := sw_ne (39) (by decide) e39
  have n40 := sw_ne (40) (by decide) e40
  have n41 := sw_ne (41) (by decide) e41
  have n42 := sw_ne (42) (by decide) e42
  have n43 := sw_ne (43) (by decide) e43
  have n44 := sw_ne (44) (by decide) e44
  have n45 := sw_ne (45) (by decide) e45
  have n46 := sw_ne (46) (by decide) e46
  have n47 := sw_ne (47) (by decide) e47
  have n48 := sw_ne (48) (by decide) e48
  have n49 := sw_ne (49) (by decide) e49
  have n50 := sw_ne (50) (by decide) e50
  have n51 := sw_ne (51) (by decide) e51
  have n52 := sw_ne (52) (by decide) e52
  have n53 := sw_ne (53) (by decide) e53
  have n54 := sw_ne (54) (by decide) e54
  have n55 := sw_ne (55) (by decide) e55
  have n56 := sw_ne (56) (by decide) e56
  refine aw_tableOut (tgt := 2406) d_L_40 (by omega) rfl ?_
  exact O _ _ _ _ L0 R.up
theorem law_loop {L : Nat} {xs : Nat → Int32} (lL : L ≤ 3072) : ∀ (r t N kc ks : Nat) (h : Hp_), 513 ≤ t + r → t ≤ 512 → Li N h → Rm t N kc ks → AW (ML L xs) kc ks 23 (lv5 (6 * t)) [] h k1_ := by
  intro r
  induction r with
  | zero =>
    intro t N kc ks h m lt
    omega
  | succ r ih =>
    intro t N kc ks h m lt L0 R
    have hk := R.ok (by omega)
    have oL : (Int32.ofNat L).toInt = (L : Int) := on_j (by omega)
    have ot := on_j (n := 6 * t) (by omega)
    have t6 : (6 : Int32).toInt = 6 := rfl
    have e6 : (Int32.ofNat L - 6).toInt = (L : Int) - 6 := by rw [tx_sub (by rw [t6, oL]; omega) (by rw [t6, oL]; omega), oL, t6]
    refine aw_iload d_L_23 4 rfl ?_
    refine aw_aload_n (i := 0) rfl d_L_25 0 rfl ?_
    refine aw_slen d_L_26 ?_
    refine aw_bipush (v := 6) d_L_27 ib_6 ?_
    refine aw_isub d_L_29 ?_
    refine aw_icmp_gt (tgt := 2412) d_L_30 rfl (fun _ => law_exit ⟨by omega, by omega⟩) (fun c => ?_)
    have c := q_nlt c
    have hL : 6 * t + 6 ≤ L := by omega
    have O : ∀ N kc ks h, Li N h → Rm (t + 1) N kc ks → AW (ML L xs) kc ks 2406 (lv5 (6 * t)) [] h k1_ := by
      intro N kc ks h L1 R1
      refine aw_iinc (v := Int32.ofNat (6 * (t + 1))) (lv5 (6 * (t + 1))) d_L_2406 4 rfl (oa_6 (n := 6 * t) (by omega)) (Nat.le_of_ble_eq_true rfl) rfl rfl ?_
      refine aw_goto (tgt := 23) d_L_2409 rfl ?_
      exact ih (t + 1) N kc ks h (by omega) (by omega) L1 R1
    refine aw_aload_n (i := 0) rfl d_L_33 0 rfl ?_
    refine aw_iload d_L_34 4 rfl ?_
    refine aw_sld (6 * t) (on_k (by omega)) (on_in (by omega) (by omega)) d_L_36 ?_
    refine aw_bipush (v := 63) d_L_37 ib_63 ?_
    refine aw_iand d_L_39 ?_
    exact law_sw hL lL L0 R O _
theorem law_pre (L : Nat) (xs : Nat → Int32) (hL : L ≤ 3072) : AW (ML L xs) 0 0 0 [(0, .ref 1100)] [] hE k1_ := by
  refine aw_new (ci := 11) 0 kc_11 tw_27 tw_28 tw_1 rfl (Nat.le_of_ble_eq_true rfl) xsL (show 0 + 1 ≤ 494584 from by decide +kernel) (show 0 + 16 ≤ 7612352 from by decide +kernel) d_L_0 ?_
  show AW (ML L xs) 1 16 3 [(0, .ref 1100)] [.ref 0] G0 k1_
  refine aw_dup d_L_3 rfl ?_
  refine aw_callI (vs := []) (a := 0) (rest := [.ref 0]) d_L_4 (cI_X11_init (0 + 2) 99 30357) ⟨rfl, rfl⟩ tw_30 tw_29 rfl ⟨Nat.le_of_ble_eq_true rfl, Nat.le_of_ble_eq_true rfl⟩ (Nat.le_of_ble_eq_true rfl) ⟨show 1 + 99 ≤ 494584 from by decide +kernel, show 16 + 30357 ≤ 7612352 from by decide +kernel⟩ xsL (k_X11_init_0 0) (fun v h9 kk => ?_)
  obtain ⟨rfl, rfl⟩ := kk
  show AW (ML L xs) 100 30373 7 [(0, .ref 1100)] [.ref 0] G37 k1_
  refine aw_astore_n (i := 1) rfl [(0, .ref 1100), (1, .ref 0)] d_L_7 (Nat.le_of_ble_eq_true rfl) rfl rfl ?_
  refine aw_new (ci := 12) 1 kc_12 tw_1735 tw_1736 tw_13 (by decide +kernel) (Nat.le_of_ble_eq_true rfl) xsL (show 100 + 1 ≤ 494584 from by decide +kernel) (show 30373 + 131 ≤ 7612352 from by decide +kernel) d_L_8 ?_
  show AW (ML L xs) 101 30504 11 [(0, .ref 1100), (1, .ref 0)] [.ref 1] GM0 k1_
  refine aw_dup d_L_11 rfl ?_
  refine aw_callI (vs := []) (a := 1) (rest := [.ref 1]) d_L_12 (cI_X12_init (0 + 1) 100 288204) ⟨rfl, rfl⟩ tw_1738 tw_1737 rfl ⟨Nat.le_of_ble_eq_true rfl, Nat.le_of_ble_eq_true rfl⟩ (Nat.le_of_ble_eq_true rfl) ⟨show 101 + 100 ≤ 494584 from by decide +kernel, show 30504 + 288204 ≤ 7612352 from by decide +kernel⟩ xsL (k_X12_init_1 0 GM0 (by decide +kernel) (rng_none (by decide +kernel))) (fun v h9 kk => ?_)
  obtain ⟨rfl, rfl⟩ := kk
  show AW (ML L xs) 201 318708 15 [(0, .ref 1100), (1, .ref 0)] [.ref 1] (CH_1 GM0) k1_
  refine aw_astore_n (i := 2) rfl [(0, .ref 1100), (1, .ref 0), (2, .ref 1)] d_L_15 (Nat.le_of_ble_eq_true rfl) rfl rfl ?_
  refine aw_iconst (v := 1) d_L_16 ic_1 ?_
  refine aw_newa (t := 3) (atype := .long) 2 1 (by decide) rfl tw_426 (by decide +kernel) (Nat.le_of_ble_eq_true rfl) xsL (by decide) (by decide) (by decide) (show 201 + 1 ≤ 494584 from by decide +kernel) (show 318708 + 1 ≤ 7612352 from by decide +kernel) d_L_17 ?_
  show AW (ML L xs) 202 318709 19 [(0, .ref 1100), (1, .ref 0), (2, .ref 1)] [.ref 2] HF k1_
  refine aw_astore_n (i := 3) rfl [(0, .ref 1100), (1, .ref 0), (2, .ref 1), (3, .ref 2)] d_L_19 (Nat.le_of_ble_eq_true rfl) rfl rfl ?_
  refine aw_iconst (v := 0) d_L_20 ic_0 ?_
  refine aw_istore [(0, .ref 1100), (1, .ref 0), (2, .ref 1), (3, .ref 2), (4, .int 0)] d_L_21 (Nat.le_of_ble_eq_true rfl) rfl rfl ?_
  exact law_loop hL 513 0 0 202 318709 HF (by decide) (by decide) li_F ⟨by decide, by decide, by decide⟩
