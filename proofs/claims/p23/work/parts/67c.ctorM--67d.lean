section
noncomputable def CC_0 (h : Hp_) : Hp_ := h_rm (h_nw (h_rm (h_nw (h_rm (h_nw (h_rm (h_nw (h_rm (h_nw (h_rm (h_nw (h_rm (h_nw (h_rm (h_nw (h_rm (h_nw (h_rm (h_nw (h_rm (h_nw (h_rm (h_nw (h_rm (h_nw (h_rm (h_nw (h_rm (h_nw h 200 0 40) 1 2 (some 200)) 201 0 40) 1 3 (some 201)) 202 0 40) 1 4 (some 202)) 203 0 16) 1 5 (some 203)) 204 0 12) 1 8 (some 204)) 205 0 12) 1 9 (some 205)) 206 0 12) 1 10 (some 206)) 207 0 12) 1 11 (some 207)) 208 0 12) 1 12 (some 208)) 209 0 12) 1 13 (some 209)) 210 0 12) 1 14 (some 210)) 211 0 12) 1 15 (some 211)) 212 0 12) 1 16 (some 212)) 213 0 12) 1 17 (some 213)) 214 0 12) 1 18 (some 214)
theorem cf_0 (h : Hp_) (hs : h_sh h 1 = some (22, 131)) (hn : ∀ a, 200 ≤ a → a < 300 → h_sh h a = none) : h_sh (CC_0 h) 1 = some (22, 131) ∧ (∀ a, 215 ≤ a → a < 300 → h_sh (CC_0 h) a = none) := by
  have hs1 := ss_step (k := 200) (t := 0) (n := 40) (c' := 1) (s := 2) (r := some 200) hs (by decide)
  have hn2 := nn_step (k := 200) (t := 0) (n := 40) (c := 1) (s := 2) (r := some 200) hn
  have hs3 := ss_step (k := 201) (t := 0) (n := 40) (c' := 1) (s := 3) (r := some 201) hs1 (by decide)
  have hn4 := nn_step (k := 201) (t := 0) (n := 40) (c := 1) (s := 3) (r := some 201) hn2
  have hs5 := ss_step (k := 202) (t := 0) (n := 40) (c' := 1) (s := 4) (r := some 202) hs3 (by decide)
  have hn6 := nn_step (k := 202) (t := 0) (n := 40) (c := 1) (s := 4) (r := some 202) hn4
  have hs7 := ss_step (k := 203) (t := 0) (n := 16) (c' := 1) (s := 5) (r := some 203) hs5 (by decide)
  have hn8 := nn_step (k := 203) (t := 0) (n := 16) (c := 1) (s := 5) (r := some 203) hn6
  have hs9 := ss_step (k := 204) (t := 0) (n := 12) (c' := 1) (s := 8) (r := some 204) hs7 (by decide)
  have hn10 := nn_step (k := 204) (t := 0) (n := 12) (c := 1) (s := 8) (r := some 204) hn8
  have hs11 := ss_step (k := 205) (t := 0) (n := 12) (c' := 1) (s := 9) (r := some 205) hs9 (by decide)
  have hn12 := nn_step (k := 205) (t := 0) (n := 12) (c := 1) (s := 9) (r := some 205) hn10
  have hs13 := ss_step (k := 206) (t := 0) (n := 12) (c' := 1) (s := 10) (r := some 206) hs11 (by decide)
  have hn14 := nn_step (k := 206) (t := 0) (n := 12) (c := 1) (s := 10) (r := some 206) hn12
  have hs15 := ss_step (k := 207) (t := 0) (n := 12) (c' := 1) (s := 11) (r := some 207) hs13 (by decide)
  have hn16 := nn_step (k := 207) (t := 0) (n := 12) (c := 1) (s := 11) (r := some 207) hn14
  have hs17 := ss_step (k := 208) (t := 0) (n := 12) (c' := 1) (s := 12) (r := some 208) hs15 (by decide)
  have hn18 := nn_step (k := 208) (t := 0) (n := 12) (c := 1) (s := 12) (r := some 208) hn16
  have hs19 := ss_step (k := 209) (t := 0) (n := 12) (c' := 1) (s := 13) (r := some 209) hs17 (by decide)
  have hn20 := nn_step (k := 209) (t := 0) (n := 12) (c := 1) (s := 13) (r := some 209) hn18
  have hs21 := ss_step (k := 210) (t := 0) (n := 12) (c' := 1) (s := 14) (r := some 210) hs19 (by decide)
  have hn22 := nn_step (k := 210) (t := 0) (n := 12) (c := 1) (s := 14) (r := some 210) hn20
  have hs23 := ss_step (k := 211) (t := 0) (n := 12) (c' := 1) (s := 15) (r := some 211) hs21 (by decide)
  have hn24 := nn_step (k := 211) (t := 0) (n := 12) (c := 1) (s := 15) (r := some 211) hn22
  have hs25 := ss_step (k := 212) (t := 0) (n := 12) (c' := 1) (s := 16) (r := some 212) hs23 (by decide)
  have hn26 := nn_step (k := 212) (t := 0) (n := 12) (c := 1) (s := 16) (r := some 212) hn24
  have hs27 := ss_step (k := 213) (t := 0) (n := 12) (c' := 1) (s := 17) (r := some 213) hs25 (by decide)
  have hn28 := nn_step (k := 213) (t := 0) (n := 12) (c := 1) (s := 17) (r := some 213) hn26
  have hs29 := ss_step (k := 214) (t := 0) (n := 12) (c' := 1) (s := 18) (r := some 214) hs27 (by decide)
  have hn30 := nn_step (k := 214) (t := 0) (n := 12) (c := 1) (s := 18) (r := some 214) hn28
  exact ⟨hs29, hn30⟩
theorem ck_0 (d : Nat) (h : Hp_) (K : Option Value → Hp_ → Prop) (hs : h_sh h 1 = some (22, 131)) (hn : ∀ a, 200 ≤ a → a < 300 → h_sh h a = none) (k : AW (m_X12_init (d + 1) 100 288204) 15 268 124 [(0, .ref 1)] [] (CC_0 h) K) : AW (m_X12_init (d + 1) 100 288204) 0 0 4 [(0, .ref 1)] [] h K := by
  refine aw_aload_n (i := 0) rfl d_X12_init_4 0 rfl ?_
  refine aw_bipush (v := 40) d_X12_init_5 ib_40 ?_
  refine aw_newa (t := 0) (atype := .int) 200 40 (by decide) rfl tw_51 (hn 200 (by decide) (by decide)) (by decide) xs0 (by decide +kernel) (by decide +kernel) (by decide +kernel) (show 0 + 1 ≤ 100 from by decide +kernel) (show 0 + 40 ≤ 288204 from by decide +kernel) d_X12_init_7 ?_
  refine aw_putrF (k0 := 2) kc_12 (ss_n hs (by decide)) (Nat.le_of_ble_eq_true rfl) tw_1744 d_X12_init_9 rfl rfl rfl rfl ?_
  have hs1 := ss_step (k := 200) (t := 0) (n := 40) (c' := 1) (s := 2) (r := some 200) hs (by decide)
  have hn2 := nn_step (k := 200) (t := 0) (n := 40) (c := 1) (s := 2) (r := some 200) hn
  refine aw_aload_n (i := 0) rfl d_X12_init_12 0 rfl ?_
  refine aw_bipush (v := 40) d_X12_init_13 ib_40 ?_
  refine aw_newa (t := 0) (atype := .int) 201 40 (by decide) rfl tw_51 (hn2 201 (by decide) (by decide)) (by decide) xs0 (by decide +kernel) (by decide +kernel) (by decide +kernel) (show 1 + 1 ≤ 100 from by decide +kernel) (show 40 + 40 ≤ 288204 from by decide +kernel) d_X12_init_15 ?_
  refine aw_putrF (k0 := 3) kc_12 (ss_n hs1 (by decide)) (Nat.le_of_ble_eq_true rfl) tw_1745 d_X12_init_17 rfl rfl rfl rfl ?_
  have hs3 := ss_step (k := 201) (t := 0) (n := 40) (c' := 1) (s := 3) (r := some 201) hs1 (by decide)
  have hn4 := nn_step (k := 201) (t := 0) (n := 40) (c := 1) (s := 3) (r := some 201) hn2
  refine aw_aload_n (i := 0) rfl d_X12_init_20 0 rfl ?_
  refine aw_bipush (v := 40) d_X12_init_21 ib_40 ?_
  refine aw_newa (t := 0) (atype := .int) 202 40 (by decide) rfl tw_51 (hn4 202 (by decide) (by decide)) (by decide) xs0 (by decide +kernel) (by decide +kernel) (by decide +kernel) (show 2 + 1 ≤ 100 from by decide +kernel) (show 80 + 40 ≤ 288204 from by decide +kernel) d_X12_init_23 ?_
  refine aw_putrF (k0 := 4) kc_12 (ss_n hs3 (by decide)) (Nat.le_of_ble_eq_true rfl) tw_1746 d_X12_init_25 rfl rfl rfl rfl ?_
  have hs5 := ss_step (k := 202) (t := 0) (n := 40) (c' := 1) (s := 4) (r := some 202) hs3 (by decide)
  have hn6 := nn_step (k := 202) (t := 0) (n := 40) (c := 1) (s := 4) (r := some 202) hn4
  refine aw_aload_n (i := 0) rfl d_X12_init_28 0 rfl ?_
  refine aw_bipush (v := 16) d_X12_init_29 ib_16 ?_
  refine aw_newa (t := 0) (atype := .int) 203 16 (by decide) rfl tw_51 (hn6 203 (by decide) (by decide)) (by decide) xs0 (by decide +kernel) (by decide +kernel) (by decide +kernel) (show 3 + 1 ≤ 100 from by decide +kernel) (show 120 + 16 ≤ 288204 from by decide +kernel) d_X12_init_31 ?_
  refine aw_putrF (k0 := 5) kc_12 (ss_n hs5 (by decide)) (Nat.le_of_ble_eq_true rfl) tw_1747 d_X12_init_33 rfl rfl rfl rfl ?_
  have hs7 := ss_step (k := 203) (t := 0) (n := 16) (c' := 1) (s := 5) (r := some 203) hs5 (by decide)
  have hn8 := nn_step (k := 203) (t := 0) (n := 16) (c := 1) (s := 5) (r := some 203) hn6
  refine aw_aload_n (i := 0) rfl d_X12_init_36 0 rfl ?_
  refine aw_bipush (v := 12) d_X12_init_37 ib_12 ?_
  refine aw_newa (t := 0) (atype := .int) 204 12 (by decide) rfl tw_51 (hn8 204 (by decide) (by decide)) (by decide) xs0 (by decide +kernel) (by decide +kernel) (by decide +kernel) (show 4 + 1 ≤ 100 from by decide +kernel) (show 136 + 12 ≤ 288204 from by decide +kernel) d_X12_init_39 ?_
  refine aw_putrF (k0 := 8) kc_12 (ss_n hs7 (by decide)) (Nat.le_of_ble_eq_true rfl) tw_1750 d_X12_init_41 rfl rfl rfl rfl ?_
  have hs9 := ss_step (k := 204) (t := 0) (n := 12) (c' := 1) (s := 8) (r := some 204) hs7 (by decide)
  have hn10 := nn_step (k := 204) (t := 0) (n := 12) (c := 1) (s := 8) (r := some 204) hn8
  refine aw_aload_n (i := 0) rfl d_X12_init_44 0 rfl ?_
  refine aw_bipush (v := 12) d_X12_init_45 ib_12 ?_
  refine aw_newa (t := 0) (atype := .int) 205 12 (by decide) rfl tw_51 (hn10 205 (by decide) (by decide)) (by decide) xs0 (by decide +kernel) (by decide +kernel) (by decide +kernel) (show 5 + 1 ≤ 100 from by decide +kernel) (show 148 + 12 ≤ 288204 from by decide +kernel) d_X12_init_47 ?_
  refine aw_putrF (k0 := 9) kc_12 (ss_n hs9 (by decide)) (Nat.le_of_ble_eq_true rfl) tw_1751 d_X12_init_49 rfl rfl rfl rfl ?_
  have hs11 := ss_step (k := 205) (t := 0) (n := 12) (c' := 1) (s := 9) (r := some 205) hs9 (by decide)
  have hn12 := nn_step (k := 205) (t := 0) (n := 12) (c := 1) (s := 9) (r := some 205) hn10
  refine aw_aload_n (i := 0) rfl d_X12_init_52 0 rfl ?_
  refine aw_bipush (v := 12) d_X12_init_53 ib_12 ?_
  refine aw_newa (t := 0) (atype := .int) 206 12 (by decide) rfl tw_51 (hn12 206 (by decide) (by decide)) (by decide) xs0 (by decide +kernel) (by decide +kernel) (by decide +kernel) (show 6 + 1 ≤ 100 from by decide +kernel) (show 160 + 12 ≤ 288204 from by decide +kernel) d_X12_init_55 ?_
  refine aw_putrF (k0 := 10) kc_12 (ss_n hs11 (by decide)) (Nat.le_of_ble_eq_true rfl) tw_1752 d_X12_init_57 rfl rfl rfl rfl ?_
  have hs13 := ss_step (k := 206) (t := 0) (n := 12) (c' := 1) (s := 10) (r := some 206) hs11 (by decide)
  have hn14 := nn_step (k := 206) (t := 0) (n := 12) (c := 1) (s := 10) (r := some 206) hn12
  refine aw_aload_n (i := 0) rfl d_X12_init_60 0 rfl ?_
  refine aw_bipush (v := 12) d_X12_init_61 ib_12 ?_
  refine aw_newa (t := 0) (atype := .int) 207 12 (by decide) rfl tw_51 (hn14 207 (by decide) (by decide)) (by decide) xs0 (by decide +kernel) (by decide +kernel) (by decide +kernel) (show 7 + 1 ≤ 100 from by decide +kernel) (show 172 + 12 ≤ 288204 from by decide +kernel) d_X12_init_63 ?_
  refine aw_putrF (k0 := 11) kc_12 (ss_n hs13 (by decide)) (Nat.le_of_ble_eq_true rfl) tw_1753 d_X12_init_65 rfl rfl rfl rfl ?_
  have hs15 := ss_step (k := 207) (t := 0) (n := 12) (c' := 1) (s := 11) (r := some 207) hs13 (by decide)
  have hn16 := nn_step (k := 207) (t := 0) (n := 12) (c := 1) (s := 11) (r := some 207) hn14
  refine aw_aload_n (i := 0) rfl d_X12_init_68 0 rfl ?_
  refine aw_bipush (v := 12) d_X12_init_69 ib_12 ?_
  refine aw_newa (t := 0) (atype := .int) 208 12 (by decide) rfl tw_51 (hn16 208 (by decide) (by decide)) (by decide) xs0 (by decide +kernel) (by decide +kernel) (by decide +kernel) (show 8 + 1 ≤ 100 from by decide +kernel) (show 184 + 12 ≤ 288204 from by decide +kernel) d_X12_init_71 ?_
  refine aw_putrF (k0 := 12) kc_12 (ss_n hs15 (by decide)) (Nat.le_of_ble_eq_true rfl) tw_1754 d_X12_init_73 rfl rfl rfl rfl ?_
  have hs17 := ss_step (k := 208) (t := 0) (n := 12) (c' := 1) (s := 12) (r := some 208) hs15 (by decide)
  have hn18 := nn_step (k := 208) (t := 0) (n := 12) (c := 1) (s := 12) (r := some 208) hn16
  refine aw_aload_n (i := 0) rfl d_X12_init_76 0 rfl ?_
  refine aw_bipush (v := 12) d_X12_init_77 ib_12 ?_
  refine aw_newa (t := 0) (atype := .int) 209 12 (by decide) rfl tw_51 (hn18 209 (by decide) (by decide)) (by decide) xs0 (by decide +kernel) (by decide +kernel) (by decide +kernel) (show 9 + 1 ≤ 100 from by decide +kernel) (show 196 + 12 ≤ 288204 from by decide +kernel) d_X12_init_79 ?_
  refine aw_putrF (k0 := 13) kc_12 (ss_n hs17 (by decide)) (Nat.le_of_ble_eq_true rfl) tw_1755 d_X12_init_81 rfl rfl rfl rfl ?_
  have hs19 := ss_step (k := 209) (t := 0) (n := 12) (c' := 1) (s := 13) (r := some 209) hs17 (by decide)
  have hn20 := nn_step (k := 209) (t := 0) (n := 12) (c := 1) (s := 13) (r := some 209) hn18
  refine aw_aload_n (i := 0) rfl d_X12_init_84 0 rfl ?_
  refine aw_bipush (v := 12) d_X12_init_85 ib_12 ?_
  refine aw_newa (t := 0) (atype := .int) 210 12 (by decide) rfl tw_51 (hn20 210 (by decide) (by decide)) (by decide) xs0 (by decide +kernel) (by decide +kernel) (by decide +kernel) (show 10 + 1 ≤ 100 from by decide +kernel) (show 208 + 12 ≤ 288204 from by decide +kernel) d_X12_init_87 ?_
  refine aw_putrF (k0 := 14) kc_12 (ss_n hs19 (by decide)) (Nat.le_of_ble_eq_true rfl) tw_1756 d_X12_init_89 rfl rfl rfl rfl ?_
  have hs21 := ss_step (k := 210) (t := 0) (n := 12) (c' := 1) (s := 14) (r := some 210) hs19 (by decide)
  have hn22 := nn_step (k := 210) (t := 0) (n := 12) (c := 1) (s := 14) (r := some 210) hn20
  refine aw_aload_n (i := 0) rfl d_X12_init_92 0 rfl ?_
  refine aw_bipush (v := 12) d_X12_init_93 ib_12 ?_
  refine aw_newa (t := 0) (atype := .int) 211 12 (by decide) rfl tw_51 (hn22 211 (by decide) (by decide)) (by decide) xs0 (by decide +kernel) (by decide +kernel) (by decide +kernel) (show 11 + 1 ≤ 100 from by decide +kernel) (show 220 + 12 ≤ 288204 from by decide +kernel) d_X12_init_95 ?_
  refine aw_putrF (k0 := 15) kc_12 (ss_n hs21 (by decide)) (Nat.le_of_ble_eq_true rfl) tw_1757 d_X12_init_97 rfl rfl rfl rfl ?_
  have hs23 := ss_step (k := 211) (t := 0) (n := 12) (c' := 1) (s := 15) (r := some 211) hs21 (by decide)
  have hn24 := nn_step (k := 211) (t := 0) (n := 12) (c := 1) (s := 15) (r := some 211) hn22
  refine aw_aload_n (i := 0) rfl d_X12_init_100 0 rfl ?_
  refine aw_bipush (v := 12) d_X12_init_101 ib_12 ?_
  refine aw_newa (t := 0) (atype := .int) 212 12 (by decide) rfl tw_51 (hn24 212 (by decide) (by decide)) (by decide) xs0 (by decide +kernel) (by decide +kernel) (by decide +kernel) (show 12 + 1 ≤ 100 from by decide +kernel) (show 232 + 12 ≤ 288204 from by decide +kernel) d_X12_init_103 ?_
  refine aw_putrF (k0 := 16) kc_12 (ss_n hs23 (by decide)) (Nat.le_of_ble_eq_true rfl) tw_1758 d_X12_init_105 rfl rfl rfl rfl ?_
  have hs25 := ss_step (k := 212) (t := 0) (n := 12) (c' := 1) (s := 16) (r := some 212) hs23 (by decide)
  have hn26 := nn_step (k := 212) (t := 0) (n := 12) (c := 1) (s := 16) (r := some 212) hn24
  refine aw_aload_n (i := 0) rfl d_X12_init_108 0 rfl ?_
  refine aw_bipush (v := 12) d_X12_init_109 ib_12 ?_
  refine aw_newa (t := 0) (atype := .int) 213 12 (by decide) rfl tw_51 (hn26 213 (by decide) (by decide)) (by decide) xs0 (by decide +kernel) (by decide +kernel) (by decide +kernel) (show 13 + 1 ≤ 100 from by decide +kernel) (show 244 + 12 ≤ 288204 from by decide +kernel) d_X12_init_111 ?_
  refine aw_putrF (k0 := 17) kc_12 (ss_n hs25 (by decide)) (Nat.le_of_ble_eq_true rfl) tw_1759 d_X12_init_113 rfl rfl rfl rfl ?_
  have hs27 := ss_step (k := 213) (t := 0) (n := 12) (c' := 1) (s := 17) (r := some 213) hs25 (by decide)
  have hn28 := nn_step (k := 213) (t := 0) (n := 12) (c := 1) (s := 17) (r := some 213) hn26
  refine aw_aload_n (i := 0) rfl d_X12_init_116 0 rfl ?_
  refine aw_bipush (v := 12) d_X12_init_117 ib_12 ?_
  refine aw_newa (t := 0) (atype := .int) 214 12 (by decide) rfl tw_51 (hn28 214 (by decide) (by decide)) (by decide) xs0 (by decide +kernel) (by decide +kernel) (by decide +kernel) (show 14 + 1 ≤ 100 from by decide +kernel) (show 256 + 12 ≤ 288204 from by decide +kernel) d_X12_init_119 ?_
  refine aw_putrF (k0 := 18) kc_12 (ss_n hs27 (by decide)) (Nat.le_of_ble_eq_true rfl) tw_1760 d_X12_init_121 rfl rfl rfl rfl ?_
  have hs29 := ss_step (k := 214) (t := 0) (n := 12) (c' := 1) (s := 18) (r := some 214) hs27 (by decide)
  have hn30 := nn_step (k := 214) (t := 0) (n := 12) (c := 1) (s := 18) (r := some 214) hn28
  exact k
noncomputable def CC_1 (h : Hp_) : Hp_ := h_rm (h_nw (h_rm (h_nw (h_rm (h_nw (h_rm (h_nw (h_rm (h_nw (h_rm (h_nw (h_rm (h_nw (h_rm (h_nw (h_rm (h_nw (h_rm (h_nw (h_rm (h_nw (h_rm (h_nw (h_rm (h_nw (h_rm (h_nw (h_rm (h_nw h 215 0 12) 1 19 (some 215)) 216 0 12) 1 20 (some 216)) 217 0 12) 1 21 (some 217)) 218 0 12) 1 22 (some 218)) 219 0 12) 1 23 (some 219)) 220 2 240012) 1 24 (some 220)) 221 0 40) 1 25 (some 221)) 222 0 40) 1 26 (some 222)) 223 0 40) 1 27 (some 223)) 224 0 40) 1 28 (some 224)) 225 0 160) 1 30 (some 225)) 226 0 560) 1 31 (some 226)) 227 0 12) 1 38 (some 227)) 228 0 1800) 1 39 (some 228)) 229 0 1800) 1 40 (some 229)
theorem cf_1 (h : Hp_) (hs : h_sh h 1 = some (22, 131)) (hn : ∀ a, 215 ≤ a → a < 300 → h_sh h a = none) : h_sh (CC_1 h) 1 = some (22, 131) ∧ (∀ a, 230 ≤ a → a < 300 → h_sh (CC_1 h) a = none) := by
  have hs1 := ss_step (k := 215) (t := 0) (n := 12) (c' := 1) (s := 19) (r := some 215) hs (by decide)
  have hn2 := nn_step (k := 215) (t := 0) (n := 12) (c := 1) (s := 19) (r := some 215) hn
  have hs3 := ss_step (k := 216) (t := 0) (n := 12) (c' := 1) (s := 20) (r := some 216) hs1 (by decide)
  have hn4 := nn_step (k := 216) (t := 0) (n := 12) (c := 1) (s := 20) (r := some 216) hn2
  have hs5 := ss_step (k := 217) (t := 0) (n := 12) (c' := 1) (s := 21) (r := some 217) hs3 (by decide)
  have hn6 := nn_step (k := 217) (t := 0) (n := 12) (c := 1) (s := 21) (r := some 217) hn4
  have hs7 := ss_step (k := 218) (t := 0) (n := 12) (c' := 1) (s := 22) (r := some 218) hs5 (by decide)
  have hn8 := nn_step (k := 218) (t := 0) (n := 12) (c := 1) (s := 22) (r := some 218) hn6
  have hs9 := ss_step (k := 219) (t := 0) (n := 12) (c' := 1) (s := 23) (r := some 219) hs7 (by decide)
  have hn10 := nn_step (k := 219) (t := 0) (n := 12) (c := 1) (s := 23) (r := some 219) hn8
  have hs11 := ss_step (k := 220) (t := 2) (n := 240012) (c' := 1) (s := 24) (r := some 220) hs9 (by decide)
  have hn12 := nn_step (k := 220) (t := 2) (n := 240012) (c := 1) (s := 24) (r := some 220) hn10
  have hs13 := ss_step (k := 221) (t := 0) (n := 40) (c' := 1) (s := 25) (r := some 221) hs11 (by decide)
  have hn14 := nn_step (k := 221) (t := 0) (n := 40) (c := 1) (s := 25) (r := some 221) hn12
  have hs15 := ss_step (k := 222) (t := 0) (n := 40) (c' := 1) (s := 26) (r := some 222) hs13 (by decide)
  have hn16 := nn_step (k := 222) (t := 0) (n := 40) (c := 1) (s := 26) (r := some 222) hn14
  have hs17 := ss_step (k := 223) (t := 0) (n := 40) (c' := 1) (s := 27) (r := some 223) hs15 (by decide)
  have hn18 := nn_step (k := 223) (t := 0) (n := 40) (c := 1) (s := 27) (r := some 223) hn16
  have hs19 := ss_step (k := 224) (t := 0) (n := 40) (c' := 1) (s := 28) (r := some 224) hs17 (by decide)
  have hn20 := nn_step (k := 224) (t := 0) (n := 40) (c := 1) (s := 28) (r := some 224) hn18
  have hs21 := ss_step (k := 225) (t := 0) (n := 160) (c' := 1) (s := 30) (r := some 225) hs19 (by decide)
  have hn22 := nn_step (k := 225) (t := 0) (n := 160) (c := 1) (s := 30) (r := some 225) hn20
  have hs23 := ss_step (k := 226) (t := 0) (n := 560) (c' := 1) (s := 31) (r := some 226) hs21 (by decide)
  have hn24 := nn_step (k := 226) (t := 0) (n := 560) (c := 1) (s := 31) (r := some 226) hn22
  have hs25 := ss_step (k := 227) (t := 0) (n := 12) (c' := 1) (s := 38) (r := some 227) hs23 (by decide)
  have hn26 := nn_step (k := 227) (t := 0) (n := 12) (c := 1) (s := 38) (r := some 227) hn24
  have hs27 := ss_step (k := 228) (t := 0) (n := 1800) (c' := 1) (s := 39) (r := some 228) hs25 (by decide)
  have hn28 := nn_step (k := 228) (t := 0) (n := 1800) (c := 1) (s := 39) (r := some 228) hn26
  have hs29 := ss_step (k := 229) (t := 0) (n := 1800) (c' := 1) (s := 40) (r := some 229) hs27 (by decide)
  have hn30 := nn_step (k := 229) (t := 0) (n := 1800) (c := 1) (s := 40) (r := some 229) hn28
  exact ⟨hs29, hn30⟩
theorem ck_1 (d : Nat) (h : Hp_) (K : Option Value → Hp_ → Prop) (hs : h_sh h 1 = some (22, 131)) (hn : ∀ a, 215 ≤ a → a < 300 → h_sh h a = none) (k : AW (m_X12_init (d + 1) 100 288204) 30 244832 248 [(0, .ref 1)] [] (CC_1 h) K) : AW (m_X12_init (d + 1) 100 288204) 15 268 124 [(0, .ref 1)] [] h K := by
  refine aw_aload_n (i := 0) rfl d_X12_init_124 0 rfl ?_
  refine aw_bipush (v := 12) d_X12_init_125 ib_12 ?_
  refine aw_newa (t := 0) (atype := .int) 215 12 (by decide) rfl tw_51 (hn 215 (by decide) (by decide)) (by decide) xs0 (by decide +kernel) (by decide +kernel) (by decide +kernel) (show 15 + 1 ≤ 100 from by decide +kernel) (show 268 + 12 ≤ 288204 from by decide +kernel) d_X12_init_127 ?_
  refine aw_putrF (k0 := 19) kc_12 (ss_n hs (by decide)) (Nat.le_of_ble_eq_true rfl) tw_1761 d_X12_init_129 rfl rfl rfl rfl ?_
  have hs1 := ss_step (k := 215) (t := 0) (n := 12) (c' := 1) (s := 19) (r := some 215) hs (by decide)
  have hn2 := nn_step (k := 215) (t := 0) (n := 12) (c := 1) (s := 19) (r := some 215) hn
  refine aw_aload_n (i := 0) rfl d_X12_init_132 0 rfl ?_
  refine aw_bipush (v := 12) d_X12_init_133 ib_12 ?_
  refine aw_newa (t := 0) (atype := .int) 216 12 (by decide) rfl tw_51 (hn2 216 (by decide) (by decide)) (by decide) xs0 (by decide +kernel) (by decide +kernel) (by decide +kernel) (show 16 + 1 ≤ 100 from by decide +kernel) (show 280 + 12 ≤ 288204 from by decide +kernel) d_X12_init_135 ?_
  refine aw_putrF (k0 := 20) kc_12 (ss_n hs1 (by decide)) (Nat.le_of_ble_eq_true rfl) tw_1762 d_X12_init_137 rfl rfl rfl rfl ?_
  have hs3 := ss_step (k := 216) (t := 0) (n := 12) (c' := 1) (s := 20) (r := some 216) hs1 (by decide)
  have hn4 := nn_step (k := 216) (t := 0) (n := 12) (c := 1) (s := 20) (r := some 216) hn2
  refine aw_aload_n (i := 0) rfl d_X12_init_140 0 rfl ?_
  refine aw_bipush (v := 12) d_X12_init_141 ib_12 ?_
  refine aw_newa (t := 0) (atype := .int) 217 12 (by decide) rfl tw_51 (hn4 217 (by decide) (by decide)) (by decide) xs0 (by decide +kernel) (by decide +kernel) (by decide +kernel) (show 17 + 1 ≤ 100 from by decide +kernel) (show 292 + 12 ≤ 288204 from by decide +kernel) d_X12_init_143 ?_
  refine aw_putrF (k0 := 21) kc_12 (ss_n hs3 (by decide)) (Nat.le_of_ble_eq_true rfl) tw_1763 d_X12_init_145 rfl rfl rfl rfl ?_
  have hs5 := ss_step (k := 217) (t := 0) (n := 12) (c' := 1) (s := 21) (r := some 217) hs3 (by decide)
  have hn6 := nn_step (k := 217) (t := 0) (n := 12) (c := 1) (s := 21) (r := some 217) hn4
  refine aw_aload_n (i := 0) rfl d_X12_init_148 0 rfl ?_
  refine aw_bipush (v := 12) d_X12_init_149 ib_12 ?_
  refine aw_newa (t := 0) (atype := .int) 218 12 (by decide) rfl tw_51 (hn6 218 (by decide) (by decide)) (by decide) xs0 (by decide +kernel) (by decide +kernel) (by decide +kernel) (show 18 + 1 ≤ 100 from by decide +kernel) (show 304 + 12 ≤ 288204 from by decide +kernel) d_X12_init_151 ?_
  refine aw_putrF (k0 := 22) kc_12 (ss_n hs5 (by decide)) (Nat.le_of_ble_eq_true rfl) tw_1764 d_X12_init_153 rfl rfl rfl rfl ?_
  have hs7 := ss_step (k := 218) (t := 0) (n := 12) (c' := 1) (s := 22) (r := some 218) hs5 (by decide)
  have hn8 := nn_step (k := 218) (t := 0) (n := 12) (c := 1) (s := 22) (r := some 218) hn6
  refine aw_aload_n (i := 0) rfl d_X12_init_156 0 rfl ?_
  refine aw_bipush (v := 12) d_X12_init_157 ib_12 ?_
  refine aw_newa (t := 0) (atype := .int) 219 12 (by decide) rfl tw_51 (hn8 219 (by decide) (by decide)) (by decide) xs0 (by decide +kernel) (by decide +kernel) (by decide +kernel) (show 19 + 1 ≤ 100 from by decide +kernel) (show 316 + 12 ≤ 288204 from by decide +kernel) d_X12_init_159 ?_
  refine aw_putrF (k0 := 23) kc_12 (ss_n hs7 (by decide)) (Nat.le_of_ble_eq_true rfl) tw_1765 d_X12_init_161 rfl rfl rfl rfl ?_
  have hs9 := ss_step (k := 219) (t := 0) (n := 12) (c' := 1) (s := 23) (r := some 219) hs7 (by decide)
  have hn10 := nn_step (k := 219) (t := 0) (n := 12) (c := 1) (s := 23) (r := some 219) hn8
  refine aw_aload_n (i := 0) rfl d_X12_init_164 0 rfl ?_
  refine aw_ldc (v := 240012) d_X12_init_165 tw_1741 ?_
  refine aw_newa (t := 2) (atype := .byte) 220 240012 (by decide) rfl tw_96 (hn10 220 (by decide) (by decide)) (by decide) xs0 (by decide +kernel) (by decide +kernel) (by decide +kernel) (show 20 + 1 ≤ 100 from by decide +kernel) (show 328 + 240012 ≤ 288204 from by decide +kernel) d_X12_init_167 ?_
  refine aw_putrF (k0 := 24) kc_12 (ss_n hs9 (by decide)) (Nat.le_of_ble_eq_true rfl) tw_1766 d_X12_init_169 rfl rfl rfl rfl ?_
  have hs11 := ss_step (k := 220) (t := 2) (n := 240012) (c' := 1) (s := 24) (r := some 220) hs9 (by decide)
  have hn12 := nn_step (k := 220) (t := 2) (n := 240012) (c := 1) (s := 24) (r := some 220) hn10
  refine aw_aload_n (i := 0) rfl d_X12_init_172 0 rfl ?_
  refine aw_bipush (v := 40) d_X12_init_173 ib_40 ?_
  refine aw_newa (t := 0) (atype := .int) 221 40 (by decide) rfl tw_51 (hn12 221 (by decide) (by decide)) (by decide) xs0 (by decide +kernel) (by decide +kernel) (by decide +kernel) (show 21 + 1 ≤ 100 from by decide +kernel) (show 240340 + 40 ≤ 288204 from by decide +kernel) d_X12_init_175 ?_
  refine aw_putrF (k0 := 25) kc_12 (ss_n hs11 (by decide)) (Nat.le_of_ble_eq_true rfl) tw_1767 d_X12_init_177 rfl rfl rfl rfl ?_
  have hs13 := ss_step (k := 221) (t := 0) (n := 40) (c' := 1) (s := 25) (r := some 221) hs11 (by decide)
  have hn14 := nn_step (k := 221) (t := 0) (n := 40) (c := 1) (s := 25) (r := some 221) hn12
  refine aw_aload_n (i := 0) rfl d_X12_init_180 0 rfl ?_
  refine aw_bipush (v := 40) d_X12_init_181 ib_40 ?_
  refine aw_newa (t := 0) (atype := .int) 222 40 (by decide) rfl tw_51 (hn14 222 (by decide) (by decide)) (by decide) xs0 (by decide +kernel) (by decide +kernel) (by decide +kernel) (show 22 + 1 ≤ 100 from by decide +kernel) (show 240380 + 40 ≤ 288204 from by decide +kernel) d_X12_init_183 ?_
  refine aw_putrF (k0 := 26) kc_12 (ss_n hs13 (by decide)) (Nat.le_of_ble_eq_true rfl) tw_1768 d_X12_init_185 rfl rfl rfl rfl ?_
  have hs15 := ss_step (k := 222) (t := 0) (n := 40) (c' := 1) (s := 26) (r := some 222) hs13 (by decide)
  have hn16 := nn_step (k := 222) (t := 0) (n := 40) (c := 1) (s := 26) (r := some 222) hn14
  refine aw_aload_n (i := 0) rfl d_X12_init_188 0 rfl ?_
  refine aw_bipush (v := 40) d_X12_init_189 ib_40 ?_
  refine aw_newa (t := 0) (atype := .int) 223 40 (by decide) rfl tw_51 (hn16 223 (by decide) (by decide)) (by decide) xs0 (by decide +kernel) (by decide +kernel) (by decide +kernel) (show 23 + 1 ≤ 100 from by decide +kernel) (show 240420 + 40 ≤ 288204 from by decide +kernel) d_X12_init_191 ?_
  refine aw_putrF (k0 := 27) kc_12 (ss_n hs15 (by decide)) (Nat.le_of_ble_eq_true rfl) tw_1769 d_X12_init_193 rfl rfl rfl rfl ?_
  have hs17 := ss_step (k := 223) (t := 0) (n := 40) (c' := 1) (s := 27) (r := some 223) hs15 (by decide)
  have hn18 := nn_step (k := 223) (t := 0) (n := 40) (c := 1) (s := 27) (r := some 223) hn16
  refine aw_aload_n (i := 0) rfl d_X12_init_196 0 rfl ?_
  refine aw_bipush (v := 40) d_X12_init_197 ib_40 ?_
  refine aw_newa (t := 0) (atype := .int) 224 40 (by decide) rfl tw_51 (hn18 224 (by decide) (by decide)) (by decide) xs0 (by decide +kernel) (by decide +kernel) (by decide +kernel) (show 24 + 1 ≤ 100 from by decide +kernel) (show 240460 + 40 ≤ 288204 from by decide +kernel) d_X12_init_199 ?_
  refine aw_putrF (k0 := 28) kc_12 (ss_n hs17 (by decide)) (Nat.le_of_ble_eq_true rfl) tw_1770 d_X12_init_201 rfl rfl rfl rfl ?_
  have hs19 := ss_step (k := 224) (t := 0) (n := 40) (c' := 1) (s := 28) (r := some 224) hs17 (by decide)
  have hn20 := nn_step (k := 224) (t := 0) (n := 40) (c := 1) (s := 28) (r := some 224) hn18
  refine aw_aload_n (i := 0) rfl d_X12_init_204 0 rfl ?_
  refine aw_sipush (v := 160) d_X12_init_205 is_160 ?_
  refine aw_newa (t := 0) (atype := .int) 225 160 (by decide) rfl tw_51 (hn20 225 (by decide) (by decide)) (by decide) xs0 (by decide +kernel) (by decide +kernel) (by decide +kernel) (show 25 + 1 ≤ 100 from by decide +kernel) (show 240500 + 160 ≤ 288204 from by decide +kernel) d_X12_init_208 ?_
  refine aw_putrF (k0 := 30) kc_12 (ss_n hs19 (by decide)) (Nat.le_of_ble_eq_true rfl) tw_1772 d_X12_init_210 rfl rfl rfl rfl ?_
  have hs21 := ss_step (k := 225) (t := 0) (n := 160) (c' := 1) (s := 30) (r := some 225) hs19 (by decide)
  have hn22 := nn_step (k := 225) (t := 0) (n := 160) (c := 1) (s := 30) (r := some 225) hn20
  refine aw_aload_n (i := 0) rfl d_X12_init_213 0 rfl ?_
  refine aw_sipush (v := 560) d_X12_init_214 is_560 ?_
  refine aw_newa (t := 0) (atype := .int) 226 560 (by decide) rfl tw_51 (hn22 226 (by decide) (by decide)) (by decide) xs0 (by decide +kernel) (by decide +kernel) (by decide +kernel) (show 26 + 1 ≤ 100 from by decide +kernel) (show 240660 + 560 ≤ 288204 from by decide +kernel) d_X12_init_217 ?_
  refine aw_putrF (k0 := 31) kc_12 (ss_n hs21 (by decide)) (Nat.le_of_ble_eq_true rfl) tw_1773 d_X12_init_219 rfl rfl rfl rfl ?_
  have hs23 := ss_step (k := 226) (t := 0) (n := 560) (c' := 1) (s := 31) (r := some 226) hs21 (by decide)
  have hn24 := nn_step (k := 226) (t := 0) (n := 560) (c := 1) (s := 31) (r := some 226) hn22
  refine aw_aload_n (i := 0) rfl d_X12_init_222 0 rfl ?_
  refine aw_bipush (v := 12) d_X12_init_223 ib_12 ?_
  refine aw_newa (t := 0) (atype := .int) 227 12 (by decide) rfl tw_51 (hn24 227 (by decide) (by decide)) (by decide) xs0 (by decide +kernel) (by decide +kernel) (by decide +kernel) (show 27 + 1 ≤ 100 from by decide +kernel) (show 241220 + 12 ≤ 288204 from by decide +kernel) d_X12_init_225 ?_
  refine aw_putrF (k0 := 38) kc_12 (ss_n hs23 (by decide)) (Nat.le_of_ble_eq_true rfl) tw_1780 d_X12_init_227 rfl rfl rfl rfl ?_
  have hs25 := ss_step (k := 227) (t := 0) (n := 12) (c' := 1) (s := 38) (r := some 227) hs23 (by decide)
  have hn26 := nn_step (k := 227) (t := 0) (n := 12) (c := 1) (s := 38) (r := some 227) hn24
  refine aw_aload_n (i := 0) rfl d_X12_init_230 0 rfl ?_
  refine aw_sipush (v := 1800) d_X12_init_231 is_1800 ?_
  refine aw_newa (t := 0) (atype := .int) 228 1800 (by decide) rfl tw_51 (hn26 228 (by decide) (by decide)) (by decide) xs0 (by decide +kernel) (by decide +kernel) (by decide +kernel) (show 28 + 1 ≤ 100 from by decide +kernel) (show 241232 + 1800 ≤ 288204 from by decide +kernel) d_X12_init_234 ?_
  refine aw_putrF (k0 := 39) kc_12 (ss_n hs25 (by decide)) (Nat.le_of_ble_eq_true rfl) tw_1781 d_X12_init_236 rfl rfl rfl rfl ?_
  have hs27 := ss_step (k := 228) (t := 0) (n := 1800) (c' := 1) (s := 39) (r := some 228) hs25 (by decide)
  have hn28 := nn_step (k := 228) (t := 0) (n := 1800) (c := 1) (s := 39) (r := some 228) hn26
  refine aw_aload_n (i := 0) rfl d_X12_init_239 0 rfl ?_
  refine aw_sipush (v := 1800) d_X12_init_240 is_1800 ?_
  refine aw_newa (t := 0) (atype := .int) 229 1800 (by decide) rfl tw_51 (hn28 229 (by decide) (by decide)) (by decide) xs0 (by decide +kernel) (by decide +kernel) (by decide +kernel) (show 29 + 1 ≤ 100 from by decide +kernel) (show 243032 + 1800 ≤ 288204 from by decide +kernel) d_X12_init_243 ?_
  refine aw_putrF (k0 := 40) kc_12 (ss_n hs27 (by decide)) (Nat.le_of_ble_eq_true rfl) tw_1782 d_X12_init_245 rfl rfl rfl rfl ?_
  have hs29 := ss_step (k := 229) (t := 0) (n := 1800) (c' := 1) (s := 40) (r := some 229) hs27 (by decide)
  have hn30 := nn_step (k := 229) (t := 0) (n := 1800) (c := 1) (s := 40) (r := some 229) hn28
  exact k
noncomputable def CC_2 (h : Hp_) : Hp_ := h_rm (h_nw (h_rm (h_nw (h_rm (h_nw (h_rm (h_nw (h_rm (h_nw (h_rm (h_nw (h_rm (h_nw (h_rm (h_nw (h_rm (h_nw (h_rm (h_nw (h_rm (h_nw (h_rm (h_nw (h_rm (h_nw (h_rm (h_nw (h_rm (h_nw h 230 0 1800) 1 41 (some 230)) 231 0 22400) 1 45 (some 231)) 232 0 40) 1 46 (some 232)) 233 0 40) 1 47 (some 233)) 234 0 40) 1 48 (some 234)) 235 0 2) 1 49 (some 235)) 236 0 128) 1 50 (some 236)) 237 0 200) 1 51 (some 237)) 238 0 400) 1 53 (some 238)) 239 0 400) 1 54 (some 239)) 240 0 400) 1 55 (some 240)) 241 0 400) 1 56 (some 241)) 242 0 400) 1 57 (some 242)) 243 0 400) 1 58 (some 243)) 244 0 400) 1 59 (some 244)
theorem cf_2 (h : Hp_) (hs : h_sh h 1 = some (22, 131)) (hn : ∀ a, 230 ≤ a → a < 300 → h_sh h a = none) : h_sh (CC_2 h) 1 = some (22, 131) ∧ (∀ a, 245 ≤ a → a < 300 → h_sh (CC_2 h) a = none) := by
  have hs1 := ss_step (k := 230) (t := 0) (n := 1800) (c' := 1) (s := 41) (r := some 230) hs (by decide)
  have hn2 := nn_step (k := 230) (t := 0) (n := 1800) (c := 1) (s := 41) (r := some 230) hn
  have hs3 := ss_step (k := 231) (t := 0) (n := 22400) (c' := 1) (s := 45) (r := some 231) hs1 (by decide)
  have hn4 := nn_step (k := 231) (t := 0) (n := 22400) (c := 1) (s := 45) (r := some 231) hn2
  have hs5 := ss_step (k := 232) (t := 0) (n := 40) (c' := 1) (s := 46) (r := some 232) hs3 (by decide)
  have hn6 := nn_step (k := 232) (t := 0) (n := 40) (c := 1) (s := 46) (r := some 232) hn4
  have hs7 := ss_step (k := 233) (t := 0) (n := 40) (c' := 1) (s := 47) (r := some 233) hs5 (by decide)
  have hn8 := nn_step (k := 233) (t := 0) (n := 40) (c := 1) (s := 47) (r := some 233) hn6
  have hs9 := ss_step (k := 234) (t := 0) (n := 40) (c' := 1) (s := 48) (r := some 234) hs7 (by decide)
  have hn10 := nn_step (k := 234) (t := 0) (n := 40) (c := 1) (s := 48) (r := some 234) hn8
  have hs11 := ss_step (k := 235) (t := 0) (n := 2) (c' := 1) (s := 49) (r := some 235) hs9 (by decide)
  have hn12 := nn_step (k := 235) (t := 0) (n := 2) (c := 1) (s := 49) (r := some 235) hn10
  have hs13 := ss_step (k := 236) (t := 0) (n := 128) (c' := 1) (s := 50) (r := some 236) hs11 (by decide)
  have hn14 := nn_step (k := 236) (t := 0) (n := 128) (c := 1) (s := 50) (r := some 236) hn12
  have hs15 := ss_step (k := 237) (t := 0) (n := 200) (c' := 1) (s := 51) (r := some 237) hs13 (by decide)
  have hn16 := nn_step (k := 237) (t := 0) (n := 200) (c := 1) (s := 51) (r := some 237) hn14
  have hs17 := ss_step (k := 238) (t := 0) (n := 400) (c' := 1) (s := 53) (r := some 238) hs15 (by decide)
  have hn18 := nn_step (k := 238) (t := 0) (n := 400) (c := 1) (s := 53) (r := some 238) hn16
  have hs19 := ss_step (k := 239) (t := 0) (n := 400) (c' := 1) (s := 54) (r := some 239) hs17 (by decide)
  have hn20 := nn_step (k := 239) (t := 0) (n := 400) (c := 1) (s := 54) (r := some 239) hn18
  have hs21 := ss_step (k := 240) (t := 0) (n := 400) (c' := 1) (s := 55) (r := some 240) hs19 (by decide)
  have hn22 := nn_step (k := 240) (t := 0) (n := 400) (c := 1) (s := 55) (r := some 240) hn20
  have hs23 := ss_step (k := 241) (t := 0) (n := 400) (c' := 1) (s := 56) (r := some 241) hs21 (by decide)
  have hn24 := nn_step (k := 241) (t := 0) (n := 400) (c := 1) (s := 56) (r := some 241) hn22
  have hs25 := ss_step (k := 242) (t := 0) (n := 400) (c' := 1) (s := 57) (r := some 242) hs23 (by decide)
  have hn26 := nn_step (k := 242) (t := 0) (n := 400) (c := 1) (s := 57) (r := some 242) hn24
  have hs27 := ss_step (k := 243) (t := 0) (n := 400) (c' := 1) (s := 58) (r := some 243) hs25 (by decide)
  have hn28 := nn_step (k := 243) (t := 0) (n := 400) (c := 1) (s := 58) (r := some 243) hn26
  have hs29 := ss_step (k := 244) (t := 0) (n := 400) (c' := 1) (s := 59) (r := some 244) hs27 (by decide)
  have hn30 := nn_step (k := 244) (t := 0) (n := 400) (c := 1) (s := 59) (r := some 244) hn28
  exact ⟨hs29, hn30⟩
theorem ck_2 (d : Nat) (h : Hp_) (K : Option Value → Hp_ → Prop) (hs : h_sh h 1 = some (22, 131)) (hn : ∀ a, 230 ≤ a → a < 300 → h_sh h a = none) (k : AW (m_X12_init (d + 1) 100 288204) 45 272282 378 [(0, .ref 1)] [] (CC_2 h) K) : AW (m_X12_init (d + 1) 100 288204) 30 244832 248 [(0, .ref 1)] [] h K := by
  refine aw_aload_n (i := 0) rfl d_X12_init_248 0 rfl ?_
  refine aw_sipush (v := 1800) d_X12_init_249 is_1800 ?_
  refine aw_newa (t := 0) (atype := .int) 230 1800 (by decide) rfl tw_51 (hn 230 (by decide) (by decide)) (by decide) xs0 (by decide +kernel) (by decide +kernel) (by decide +kernel) (show 30 + 1 ≤ 100 from by decide +kernel) (show 244832 + 1800 ≤ 288204 from by decide +kernel) d_X12_init_252 ?_
  refine aw_putrF (k0 := 41) kc_12 (ss_n hs (by decide)) (Nat.le_of_ble_eq_true rfl) tw_1783 d_X12_init_254 rfl rfl rfl rfl ?_
  have hs1 := ss_step (k := 230) (t := 0) (n := 1800) (c' := 1) (s := 41) (r := some 230) hs (by decide)
  have hn2 := nn_step (k := 230) (t := 0) (n := 1800) (c := 1) (s := 41) (r := some 230) hn
  refine aw_aload_n (i := 0) rfl d_X12_init_257 0 rfl ?_
  refine aw_sipush (v := 22400) d_X12_init_258 is_22400 ?_
  refine aw_newa (t := 0) (atype := .int) 231 22400 (by decide) rfl tw_51 (hn2 231 (by decide) (by decide)) (by decide) xs0 (by decide +kernel) (by decide +kernel) (by decide +kernel) (show 31 + 1 ≤ 100 from by decide +kernel) (show 246632 + 22400 ≤ 288204 from by decide +kernel) d_X12_init_261 ?_
  refine aw_putrF (k0 := 45) kc_12 (ss_n hs1 (by decide)) (Nat.le_of_ble_eq_true rfl) tw_1787 d_X12_init_263 rfl rfl rfl rfl ?_
  have hs3 := ss_step (k := 231) (t := 0) (n := 22400) (c' := 1) (s := 45) (r := some 231) hs1 (by decide)
  have hn4 := nn_step (k := 231) (t := 0) (n := 22400) (c := 1) (s := 45) (r := some 231) hn2
  refine aw_aload_n (i := 0) rfl d_X12_init_266 0 rfl ?_
  refine aw_bipush (v := 40) d_X12_init_267 ib_40 ?_
  refine aw_newa (t := 0) (atype := .int) 232 40 (by decide) rfl tw_51 (hn4 232 (by decide) (by decide)) (by decide) xs0 (by decide +kernel) (by decide +kernel) (by decide +kernel) (show 32 + 1 ≤ 100 from by decide +kernel) (show 269032 + 40 ≤ 288204 from by decide +kernel) d_X12_init_269 ?_
  refine aw_putrF (k0 := 46) kc_12 (ss_n hs3 (by decide)) (Nat.le_of_ble_eq_true rfl) tw_1788 d_X12_init_271 rfl rfl rfl rfl ?_
  have hs5 := ss_step (k := 232) (t := 0) (n := 40) (c' := 1) (s := 46) (r := some 232) hs3 (by decide)
  have hn6 := nn_step (k := 232) (t := 0) (n := 40) (c := 1) (s := 46) (r := some 232) hn4
  refine aw_aload_n (i := 0) rfl d_X12_init_274 0 rfl ?_
  refine aw_bipush (v := 40) d_X12_init_275 ib_40 ?_
  refine aw_newa (t := 0) (atype := .int) 233 40 (by decide) rfl tw_51 (hn6 233 (by decide) (by decide)) (by decide) xs0 (by decide +kernel) (by decide +kernel) (by decide +kernel) (show 33 + 1 ≤ 100 from by decide +kernel) (show 269072 + 40 ≤ 288204 from by decide +kernel) d_X12_init_277 ?_
  refine aw_putrF (k0 := 47) kc_12 (ss_n hs5 (by decide)) (Nat.le_of_ble_eq_true rfl) tw_1789 d_X12_init_279 rfl rfl rfl rfl ?_
  have hs7 := ss_step (k := 233) (t := 0) (n := 40) (c' := 1) (s := 47) (r := some 233) hs5 (by decide)
  have hn8 := nn_step (k := 233) (t := 0) (n := 40) (c := 1) (s := 47) (r := some 233) hn6
  refine aw_aload_n (i := 0) rfl d_X12_init_282 0 rfl ?_
  refine aw_bipush (v := 40) d_X12_init_283 ib_40 ?_
  refine aw_newa (t := 0) (atype := .int) 234 40 (by decide) rfl tw_51 (hn8 234 (by decide) (by decide)) (by decide) xs0 (by decide +kernel) (by decide +kernel) (by decide +kernel) (show 34 + 1 ≤ 100 from by decide +kernel) (show 269112 + 40 ≤ 288204 from by decide +kernel) d_X12_init_285 ?_
  refine aw_putrF (k0 := 48) kc_12 (ss_n hs7 (by decide)) (Nat.le_of_ble_eq_true rfl) tw_1790 d_X12_init_287 rfl rfl rfl rfl ?_
  have hs9 := ss_step (k := 234) (t := 0) (n := 40) (c' := 1) (s := 48) (r := some 234) hs7 (by decide)
  have hn10 := nn_step (k := 234) (t := 0) (n := 40) (c := 1) (s := 48) (r := some 234) hn8
  refine aw_aload_n (i := 0) rfl d_X12_init_290 0 rfl ?_
  refine aw_iconst (v := 2) d_X12_init_291 ic_2 ?_
  refine aw_newa (t := 0) (atype := .int) 235 2 (by decide) rfl tw_51 (hn10 235 (by decide) (by decide)) (by decide) xs0 (by decide +kernel) (by decide +kernel) (by decide +kernel) (show 35 + 1 ≤ 100 from by decide +kernel) (show 269152 + 2 ≤ 288204 from by decide +kernel) d_X12_init_292 ?_
  refine aw_putrF (k0 := 49) kc_12 (ss_n hs9 (by decide)) (Nat.le_of_ble_eq_true rfl) tw_1791 d_X12_init_294 rfl rfl rfl rfl ?_
  have hs11 := ss_step (k := 235) (t := 0) (n := 2) (c' := 1) (s := 49) (r := some 235) hs9 (by decide)
  have hn12 := nn_step (k := 235) (t := 0) (n := 2) (c := 1) (s := 49) (r := some 235) hn10
  refine aw_aload_n (i := 0) rfl d_X12_init_297 0 rfl ?_
  refine aw_sipush (v := 128) d_X12_init_298 is_128 ?_
  refine aw_newa (t := 0) (atype := .int) 236 128 (by decide) rfl tw_51 (hn12 236 (by decide) (by decide)) (by decide) xs0 (by decide +kernel) (by decide +kernel) (by decide +kernel) (show 36 + 1 ≤ 100 from by decide +kernel) (show 269154 + 128 ≤ 288204 from by decide +kernel) d_X12_init_301 ?_
  refine aw_putrF (k0 := 50) kc_12 (ss_n hs11 (by decide)) (Nat.le_of_ble_eq_true rfl) tw_1792 d_X12_init_303 rfl rfl rfl rfl ?_
  have hs13 := ss_step (k := 236) (t := 0) (n := 128) (c' := 1) (s := 50) (r := some 236) hs11 (by decide)
  have hn14 := nn_step (k := 236) (t := 0) (n := 128) (c := 1) (s := 50) (r := some 236) hn12
  refine aw_aload_n (i := 0) rfl d_X12_init_306 0 rfl ?_
  refine aw_sipush (v := 200) d_X12_init_307 is_200 ?_
  refine aw_newa (t := 0) (atype := .int) 237 200 (by decide) rfl tw_51 (hn14 237 (by decide) (by decide)) (by decide) xs0 (by decide +kernel) (by decide +kernel) (by decide +kernel) (show 37 + 1 ≤ 100 from by decide +kernel) (show 269282 + 200 ≤ 288204 from by decide +kernel) d_X12_init_310 ?_
  refine aw_putrF (k0 := 51) kc_12 (ss_n hs13 (by decide)) (Nat.le_of_ble_eq_true rfl) tw_1793 d_X12_init_312 rfl rfl rfl rfl ?_
  have hs15 := ss_step (k := 237) (t := 0) (n := 200) (c' := 1) (s := 51) (r := some 237) hs13 (by decide)
  have hn16 := nn_step (k := 237) (t := 0) (n := 200) (c := 1) (s := 51) (r := some 237) hn14
  refine aw_aload_n (i := 0) rfl d_X12_init_315 0 rfl ?_
  refine aw_sipush (v := 400) d_X12_init_316 is_400 ?_
  refine aw_newa (t := 0) (atype := .int) 238 400 (by decide) rfl tw_51 (hn16 238 (by decide) (by decide)) (by decide) xs0 (by decide +kernel) (by decide +kernel) (by decide +kernel) (show 38 + 1 ≤ 100 from by decide +kernel) (show 269482 + 400 ≤ 288204 from by decide +kernel) d_X12_init_319 ?_
  refine aw_putrF (k0 := 53) kc_12 (ss_n hs15 (by decide)) (Nat.le_of_ble_eq_true rfl) tw_1795 d_X12_init_321 rfl rfl rfl rfl ?_
  have hs17 := ss_step (k := 238) (t := 0) (n := 400) (c' := 1) (s := 53) (r := some 238) hs15 (by decide)
  have hn18 := nn_step (k := 238) (t := 0) (n := 400) (c := 1) (s := 53) (r := some 238) hn16
  refine aw_aload_n (i := 0) rfl d_X12_init_324 0 rfl ?_
  refine aw_sipush (v := 400) d_X12_init_325 is_400 ?_
  refine aw_newa (t := 0) (atype := .int) 239 400 (by decide) rfl tw_51 (hn18 239 (by decide) (by decide)) (by decide) xs0 (by decide +kernel) (by decide +kernel) (by decide +kernel) (show 39 + 1 ≤ 100 from by decide +kernel) (show 269882 + 400 ≤ 288204 from by decide +kernel) d_X12_init_328 ?_
  refine aw_putrF (k0 := 54) kc_12 (ss_n hs17 (by decide)) (Nat.le_of_ble_eq_true rfl) tw_1796 d_X12_init_330 rfl rfl rfl rfl ?_
  have hs19 := ss_step (k := 239) (t := 0) (n := 400) (c' := 1) (s := 54) (r := some 239) hs17 (by decide)
  have hn20 := nn_step (k := 239) (t := 0) (n := 400) (c := 1) (s := 54) (r := some 239) hn18
  refine aw_aload_n (i := 0) rfl d_X12_init_333 0 rfl ?_
  refine aw_sipush (v := 400) d_X12_init_334 is_400 ?_
  refine aw_newa (t := 0) (atype := .int) 240 400 (by decide) rfl tw_51 (hn20 240 (by decide) (by decide)) (by decide) xs0 (by decide +kernel) (by decide +kernel) (by decide +kernel) (show 40 + 1 ≤ 100 from by decide +kernel) (show 270282 + 400 ≤ 288204 from by decide +kernel) d_X12_init_337 ?_
  refine aw_putrF (k0 := 55) kc_12 (ss_n hs19 (by decide)) (Nat.le_of_ble_eq_true rfl) tw_1797 d_X12_init_339 rfl rfl rfl rfl ?_
  have hs21 := ss_step (k := 240) (t := 0) (n := 400) (c' := 1) (s := 55) (r := some 240) hs19 (by decide)
  have hn22 := nn_step (k := 240) (t := 0) (n := 400) (c := 1) (s := 55) (r := some 240) hn20
  refine aw_aload_n (i := 0) rfl d_X12_init_342 0 rfl ?_
  refine aw_sipush (v := 400) d_X12_init_343 is_400 ?_
  refine aw_newa (t := 0) (atype := .int) 241 400 (by decide) rfl tw_51 (hn22 241 (by decide) (by decide)) (by decide) xs0 (by decide +kernel) (by decide +kernel) (by decide +kernel) (show 41 + 1 ≤ 100 from by decide +kernel) (show 270682 + 400 ≤ 288204 from by decide +kernel) d_X12_init_346 ?_
  refine aw_putrF (k0 := 56) kc_12 (ss_n hs21 (by decide)) (Nat.le_of_ble_eq_true rfl) tw_1798 d_X12_init_348 rfl rfl rfl rfl ?_
  have hs23 := ss_step (k := 241) (t := 0) (n := 400) (c' := 1) (s := 56) (r := some 241) hs21 (by decide)
  have hn24 := nn_step (k := 241) (t := 0) (n := 400) (c := 1) (s := 56) (r := some 241) hn22
  refine aw_aload_n (i := 0) rfl d_X12_init_351 0 rfl ?_
  refine aw_sipush (v := 400) d_X12_init_352 is_400 ?_
  refine aw_newa (t := 0) (atype := .int) 242 400 (by decide) rfl tw_51 (hn24 242 (by decide) (by decide)) (by decide) xs0 (by decide +kernel) (by decide +kernel) (by decide +kernel) (show 42 + 1 ≤ 100 from by decide +kernel) (show 271082 + 400 ≤ 288204 from by decide +kernel) d_X12_init_355 ?_
  refine aw_putrF (k0 := 57) kc_12 (ss_n hs23 (by decide)) (Nat.le_of_ble_eq_true rfl) tw_1799 d_X12_init_357 rfl rfl rfl rfl ?_
  have hs25 := ss_step (k := 242) (t := 0) (n := 400) (c' := 1) (s := 57) (r := some 242) hs23 (by decide)
  have hn26 := nn_step (k := 242) (t := 0) (n := 400) (c := 1) (s := 57) (r := some 242) hn24
  refine aw_aload_n (i := 0) rfl d_X12_init_360 0 rfl ?_
  refine aw_sipush (v := 400) d_X12_init_361 is_400 ?_
  refine aw_newa (t := 0) (atype := .int) 243 400 (by decide) rfl tw_51 (hn26 243 (by decide) (by decide)) (by decide) xs0 (by decide +kernel) (by decide +kernel) (by decide +kernel) (show 43 + 1 ≤ 100 from by decide +kernel) (show 271482 + 400 ≤ 288204 from by decide +kernel) d_X12_init_364 ?_
  refine aw_putrF (k0 := 58) kc_12 (ss_n hs25 (by decide)) (Nat.le_of_ble_eq_true rfl) tw_1800 d_X12_init_366 rfl rfl rfl rfl ?_
  have hs27 := ss_step (k := 243) (t := 0) (n := 400) (c' := 1) (s := 58) (r := some 243) hs25 (by decide)
  have hn28 := nn_step (k := 243) (t := 0) (n := 400) (c := 1) (s := 58) (r := some 243) hn26
  refine aw_aload_n (i := 0) rfl d_X12_init_369 0 rfl ?_
  refine aw_sipush (v := 400) d_X12_init_370 is_400 ?_
  refine aw_newa (t := 0) (atype := .int) 244 400 (by decide) rfl tw_51 (hn28 244 (by decide) (by decide)) (by decide) xs0 (by decide +kernel) (by decide +kernel) (by decide +kernel) (show 44 + 1 ≤ 100 from by decide +kernel) (show 271882 + 400 ≤ 288204 from by decide +kernel) d_X12_init_373 ?_
  refine aw_putrF (k0 := 59) kc_12 (ss_n hs27 (by decide)) (Nat.le_of_ble_eq_true rfl) tw_1801 d_X12_init_375 rfl rfl rfl rfl ?_
  have hs29 := ss_step (k := 244) (t := 0) (n := 400) (c' := 1) (s := 59) (r := some 244) hs27 (by decide)
  have hn30 := nn_step (k := 244) (t := 0) (n := 400) (c := 1) (s := 59) (r := some 244) hn28
  exact k
noncomputable def CC_3 (h : Hp_) : Hp_ := h_rm (h_nw (h_rm (h_nw (h_rm (h_nw (h_rm (h_nw (h_rm (h_nw (h_rm (h_nw (h_rm (h_nw (h_rm (h_nw (h_rm (h_nw (h_rm (h_nw (h_rm (h_nw (h_rm (h_nw (h_rm (h_nw (h_rm (h_nw (h_rm (h_nw h 245 0 200) 1 60 (some 245)) 246 0 200) 1 61 (some 246)) 247 0 200) 1 62 (some 247)) 248 1 12) 1 65 (some 248)) 249 0 80) 1 66 (some 249)) 250 0 80) 1 67 (some 250)) 251 0 80) 1 68 (some 251)) 252 0 80) 1 69 (some 252)) 253 0 80) 1 70 (some 253)) 254 1 80) 1 71 (some 254)) 255 0 300) 1 72 (some 255)) 256 0 300) 1 73 (some 256)) 257 0 300) 1 74 (some 257)) 258 0 300) 1 75 (some 258)) 259 0 300) 1 76 (some 259)
theorem cf_3 (h : Hp_) (hs : h_sh h 1 = some (22, 131)) (hn : ∀ a, 245 ≤ a → a < 300 → h_sh h a = none) : h_sh (CC_3 h) 1 = some (22, 131) ∧ (∀ a, 260 ≤ a → a < 300 → h_sh (CC_3 h) a = none) := by
  have hs1 := ss_step (k := 245) (t := 0) (n := 200) (c' := 1) (s := 60) (r := some 245) hs (by decide)
  have hn2 := nn_step (k := 245) (t := 0) (n := 200) (c := 1) (s := 60) (r := some 245) hn
  have hs3 := ss_step (k := 246) (t := 0) (n := 200) (c' := 1) (s := 61) (r := some 246) hs1 (by decide)
  have hn4 := nn_step (k := 246) (t := 0) (n := 200) (c := 1) (s := 61) (r := some 246) hn2
  have hs5 := ss_step (k := 247) (t := 0) (n := 200) (c' := 1) (s := 62) (r := some 247) hs3 (by decide)
  have hn6 := nn_step (k := 247) (t := 0) (n := 200) (c := 1) (s := 62) (r := some 247) hn4
  have hs7 := ss_step (k := 248) (t := 1) (n := 12) (c' := 1) (s := 65) (r := some 248) hs5 (by decide)
  have hn8 := nn_step (k := 248) (t := 1) (n := 12) (c := 1) (s := 65) (r := some 248) hn6
  have hs9 := ss_step (k := 249) (t := 0) (n := 80) (c' := 1) (s := 66) (r := some 249) hs7 (by decide)
  have hn10 := nn_step (k := 249) (t := 0) (n := 80) (c := 1) (s := 66) (r := some 249) hn8
  have hs11 := ss_step (k := 250) (t := 0) (n := 80) (c' := 1) (s := 67) (r := some 250) hs9 (by decide)
  have hn12 := nn_step (k := 250) (t := 0) (n := 80) (c := 1) (s := 67) (r := some 250) hn10
  have hs13 := ss_step (k := 251) (t := 0) (n := 80) (c' := 1) (s := 68) (r := some 251) hs11 (by decide)
  have hn14 := nn_step (k := 251) (t := 0) (n := 80) (c := 1) (s := 68) (r := some 251) hn12
  have hs15 := ss_step (k := 252) (t := 0) (n := 80) (c' := 1) (s := 69) (r := some 252) hs13 (by decide)
  have hn16 := nn_step (k := 252) (t := 0) (n := 80) (c := 1) (s := 69) (r := some 252) hn14
  have hs17 := ss_step (k := 253) (t := 0) (n := 80) (c' := 1) (s := 70) (r := some 253) hs15 (by decide)
  have hn18 := nn_step (k := 253) (t := 0) (n := 80) (c := 1) (s := 70) (r := some 253) hn16
  have hs19 := ss_step (k := 254) (t := 1) (n := 80) (c' := 1) (s := 71) (r := some 254) hs17 (by decide)
  have hn20 := nn_step (k := 254) (t := 1) (n := 80) (c := 1) (s := 71) (r := some 254) hn18
  have hs21 := ss_step (k := 255) (t := 0) (n := 300) (c' := 1) (s := 72) (r := some 255) hs19 (by decide)
  have hn22 := nn_step (k := 255) (t := 0) (n := 300) (c := 1) (s := 72) (r := some 255) hn20
  have hs23 := ss_step (k := 256) (t := 0) (n := 300) (c' := 1) (s := 73) (r := some 256) hs21 (by decide)
  have hn24 := nn_step (k := 256) (t := 0) (n := 300) (c := 1) (s := 73) (r := some 256) hn22
  have hs25 := ss_step (k := 257) (t := 0) (n := 300) (c' := 1) (s := 74) (r := some 257) hs23 (by decide)
  have hn26 := nn_step (k := 257) (t := 0) (n := 300) (c := 1) (s := 74) (r := some 257) hn24
  have hs27 := ss_step (k := 258) (t := 0) (n := 300) (c' := 1) (s := 75) (r := some 258) hs25 (by decide)
  have hn28 := nn_step (k := 258) (t := 0) (n := 300) (c := 1) (s := 75) (r := some 258) hn26
  have hs29 := ss_step (k := 259) (t := 0) (n := 300) (c' := 1) (s := 76) (r := some 259) hs27 (by decide)
  have hn30 := nn_step (k := 259) (t := 0) (n := 300) (c := 1) (s := 76) (r := some 259) hn28
  exact ⟨hs29, hn30⟩
theorem ck_3 (d : Nat) (h : Hp_) (K : Option Value → Hp_ → Prop) (hs : h_sh h 1 = some (22, 131)) (hn : ∀ a, 245 ≤ a → a < 300 → h_sh h a = none) (k : AW (m_X12_init (d + 1) 100 288204) 60 274874 506 [(0, .ref 1)] [] (CC_3 h) K) : AW (m_X12_init (d + 1) 100 288204) 45 272282 378 [(0, .ref 1)] [] h K := by
  refine aw_aload_n (i := 0) rfl d_X12_init_378 0 rfl ?_
  refine aw_sipush (v := 200) d_X12_init_379 is_200 ?_
  refine aw_newa (t := 0) (atype := .int) 245 200 (by decide) rfl tw_51 (hn 245 (by decide) (by decide)) (by decide) xs0 (by decide +kernel) (by decide +kernel) (by decide +kernel) (show 45 + 1 ≤ 100 from by decide +kernel) (show 272282 + 200 ≤ 288204 from by decide +kernel) d_X12_init_382 ?_
  refine aw_putrF (k0 := 60) kc_12 (ss_n hs (by decide)) (Nat.le_of_ble_eq_true rfl) tw_1802 d_X12_init_384 rfl rfl rfl rfl ?_
  have hs1 := ss_step (k := 245) (t := 0) (n := 200) (c' := 1) (s := 60) (r := some 245) hs (by decide)
  have hn2 := nn_step (k := 245) (t := 0) (n := 200) (c := 1) (s := 60) (r := some 245) hn
  refine aw_aload_n (i := 0) rfl d_X12_init_387 0 rfl ?_
  refine aw_sipush (v := 200) d_X12_init_388 is_200 ?_
  refine aw_newa (t := 0) (atype := .int) 246 200 (by decide) rfl tw_51 (hn2 246 (by decide) (by decide)) (by decide) xs0 (by decide +kernel) (by decide +kernel) (by decide +kernel) (show 46 + 1 ≤ 100 from by decide +kernel) (show 272482 + 200 ≤ 288204 from by decide +kernel) d_X12_init_391 ?_
  refine aw_putrF (k0 := 61) kc_12 (ss_n hs1 (by decide)) (Nat.le_of_ble_eq_true rfl) tw_1803 d_X12_init_393 rfl rfl rfl rfl ?_
  have hs3 := ss_step (k := 246) (t := 0) (n := 200) (c' := 1) (s := 61) (r := some 246) hs1 (by decide)
  have hn4 := nn_step (k := 246) (t := 0) (n := 200) (c := 1) (s := 61) (r := some 246) hn2
  refine aw_aload_n (i := 0) rfl d_X12_init_396 0 rfl ?_
  refine aw_sipush (v := 200) d_X12_init_397 is_200 ?_
  refine aw_newa (t := 0) (atype := .int) 247 200 (by decide) rfl tw_51 (hn4 247 (by decide) (by decide)) (by decide) xs0 (by decide +kernel) (by decide +kernel) (by decide +kernel) (show 47 + 1 ≤ 100 from by decide +kernel) (show 272682 + 200 ≤ 288204 from by decide +kernel) d_X12_init_400 ?_
  refine aw_putrF (k0 := 62) kc_12 (ss_n hs3 (by decide)) (Nat.le_of_ble_eq_true rfl) tw_1804 d_X12_init_402 rfl rfl rfl rfl ?_
  have hs5 := ss_step (k := 247) (t := 0) (n := 200) (c' := 1) (s := 62) (r := some 247) hs3 (by decide)
  have hn6 := nn_step (k := 247) (t := 0) (n := 200) (c := 1) (s := 62) (r := some 247) hn4
  refine aw_aload_n (i := 0) rfl d_X12_init_405 0 rfl ?_
  refine aw_bipush (v := 12) d_X12_init_406 ib_12 ?_
  refine aw_newa (t := 1) (atype := .boolean) 248 12 (by decide) rfl tw_252 (hn6 248 (by decide) (by decide)) (by decide) xs0 (by decide +kernel) (by decide +kernel) (by decide +kernel) (show 48 + 1 ≤ 100 from by decide +kernel) (show 272882 + 12 ≤ 288204 from by decide +kernel) d_X12_init_408 ?_
  refine aw_putrF (k0 := 65) kc_12 (ss_n hs5 (by decide)) (Nat.le_of_ble_eq_true rfl) tw_1807 d_X12_init_410 rfl rfl rfl rfl ?_
  have hs7 := ss_step (k := 248) (t := 1) (n := 12) (c' := 1) (s := 65) (r := some 248) hs5 (by decide)
  have hn8 := nn_step (k := 248) (t := 1) (n := 12) (c := 1) (s := 65) (r := some 248) hn6
  refine aw_aload_n (i := 0) rfl d_X12_init_413 0 rfl ?_
  refine aw_bipush (v := 80) d_X12_init_414 ib_80 ?_
  refine aw_newa (t := 0) (atype := .int) 249 80 (by decide) rfl tw_51 (hn8 249 (by decide) (by decide)) (by decide) xs0 (by decide +kernel) (by decide +kernel) (by decide +kernel) (show 49 + 1 ≤ 100 from by decide +kernel) (show 272894 + 80 ≤ 288204 from by decide +kernel) d_X12_init_416 ?_
  refine aw_putrF (k0 := 66) kc_12 (ss_n hs7 (by decide)) (Nat.le_of_ble_eq_true rfl) tw_1808 d_X12_init_418 rfl rfl rfl rfl ?_
  have hs9 := ss_step (k := 249) (t := 0) (n := 80) (c' := 1) (s := 66) (r := some 249) hs7 (by decide)
  have hn10 := nn_step (k := 249) (t := 0) (n := 80) (c := 1) (s := 66) (r := some 249) hn8
  refine aw_aload_n (i := 0) rfl d_X12_init_421 0 rfl ?_
  refine aw_bipush (v := 80) d_X12_init_422 ib_80 ?_
  refine aw_newa (t := 0) (atype := .int) 250 80 (by decide) rfl tw_51 (hn10 250 (by decide) (by decide)) (by decide) xs0 (by decide +kernel) (by decide +kernel) (by decide +kernel) (show 50 + 1 ≤ 100 from by decide +kernel) (show 272974 + 80 ≤ 288204 from by decide +kernel) d_X12_init_424 ?_
  refine aw_putrF (k0 := 67) kc_12 (ss_n hs9 (by decide)) (Nat.le_of_ble_eq_true rfl) tw_1809 d_X12_init_426 rfl rfl rfl rfl ?_
  have hs11 := ss_step (k := 250) (t := 0) (n := 80) (c' := 1) (s := 67) (r := some 250) hs9 (by decide)
  have hn12 := nn_step (k := 250) (t := 0) (n := 80) (c := 1) (s := 67) (r := some 250) hn10
  refine aw_aload_n (i := 0) rfl d_X12_init_429 0 rfl ?_
  refine aw_bipush (v := 80) d_X12_init_430 ib_80 ?_
  refine aw_newa (t := 0) (atype := .int) 251 80 (by decide) rfl tw_51 (hn12 251 (by decide) (by decide)) (by decide) xs0 (by decide +kernel) (by decide +kernel) (by decide +kernel) (show 51 + 1 ≤ 100 from by decide +kernel) (show 273054 + 80 ≤ 288204 from by decide +kernel) d_X12_init_432 ?_
  refine aw_putrF (k0 := 68) kc_12 (ss_n hs11 (by decide)) (Nat.le_of_ble_eq_true rfl) tw_1810 d_X12_init_434 rfl rfl rfl rfl ?_
  have hs13 := ss_step (k := 251) (t := 0) (n := 80) (c' := 1) (s := 68) (r := some 251) hs11 (by decide)
  have hn14 := nn_step (k := 251) (t := 0) (n := 80) (c := 1) (s := 68) (r := some 251) hn12
  refine aw_aload_n (i := 0) rfl d_X12_init_437 0 rfl ?_
  refine aw_bipush (v := 80) d_X12_init_438 ib_80 ?_
  refine aw_newa (t := 0) (atype := .int) 252 80 (by decide) rfl tw_51 (hn14 252 (by decide) (by decide)) (by decide) xs0 (by decide +kernel) (by decide +kernel) (by decide +kernel) (show 52 + 1 ≤ 100 from by decide +kernel) (show 273134 + 80 ≤ 288204 from by decide +kernel) d_X12_init_440 ?_
  refine aw_putrF (k0 := 69) kc_12 (ss_n hs13 (by decide)) (Nat.le_of_ble_eq_true rfl) tw_1811 d_X12_init_442 rfl rfl rfl rfl ?_
  have hs15 := ss_step (k := 252) (t := 0) (n := 80) (c' := 1) (s := 69) (r := some 252) hs13 (by decide)
  have hn16 := nn_step (k := 252) (t := 0) (n := 80) (c := 1) (s := 69) (r := some 252) hn14
  refine aw_aload_n (i := 0) rfl d_X12_init_445 0 rfl ?_
  refine aw_bipush (v := 80) d_X12_init_446 ib_80 ?_
  refine aw_newa (t := 0) (atype := .int) 253 80 (by decide) rfl tw_51 (hn16 253 (by decide) (by decide)) (by decide) xs0 (by decide +kernel) (by decide +kernel) (by decide +kernel) (show 53 + 1 ≤ 100 from by decide +kernel) (show 273214 + 80 ≤ 288204 from by decide +kernel) d_X12_init_448 ?_
  refine aw_putrF (k0 := 70) kc_12 (ss_n hs15 (by decide)) (Nat.le_of_ble_eq_true rfl) tw_1812 d_X12_init_450 rfl rfl rfl rfl ?_
  have hs17 := ss_step (k := 253) (t := 0) (n := 80) (c' := 1) (s := 70) (r := some 253) hs15 (by decide)
  have hn18 := nn_step (k := 253) (t := 0) (n := 80) (c := 1) (s := 70) (r := some 253) hn16
  refine aw_aload_n (i := 0) rfl d_X12_init_453 0 rfl ?_
  refine aw_bipush (v := 80) d_X12_init_454 ib_80 ?_
  refine aw_newa (t := 1) (atype := .boolean) 254 80 (by decide) rfl tw_252 (hn18 254 (by decide) (by decide)) (by decide) xs0 (by decide +kernel) (by decide +kernel) (by decide +kernel) (show 54 + 1 ≤ 100 from by decide +kernel) (show 273294 + 80 ≤ 288204 from by decide +kernel) d_X12_init_456 ?_
  refine aw_putrF (k0 := 71) kc_12 (ss_n hs17 (by decide)) (Nat.le_of_ble_eq_true rfl) tw_1813 d_X12_init_458 rfl rfl rfl rfl ?_
  have hs19 := ss_step (k := 254) (t := 1) (n := 80) (c' := 1) (s := 71) (r := some 254) hs17 (by decide)
  have hn20 := nn_step (k := 254) (t := 1) (n := 80) (c := 1) (s := 71) (r := some 254) hn18
  refine aw_aload_n (i := 0) rfl d_X12_init_461 0 rfl ?_
  refine aw_sipush (v := 300) d_X12_init_462 is_300 ?_
  refine aw_newa (t := 0) (atype := .int) 255 300 (by decide) rfl tw_51 (hn20 255 (by decide) (by decide)) (by decide) xs0 (by decide +kernel) (by decide +kernel) (by decide +kernel) (show 55 + 1 ≤ 100 from by decide +kernel) (show 273374 + 300 ≤ 288204 from by decide +kernel) d_X12_init_465 ?_
  refine aw_putrF (k0 := 72) kc_12 (ss_n hs19 (by decide)) (Nat.le_of_ble_eq_true rfl) tw_1814 d_X12_init_467 rfl rfl rfl rfl ?_
  have hs21 := ss_step (k := 255) (t := 0) (n := 300) (c' := 1) (s := 72) (r := some 255) hs19 (by decide)
  have hn22 := nn_step (k := 255) (t := 0) (n := 300) (c := 1) (s := 72) (r := some 255) hn20
  refine aw_aload_n (i := 0) rfl d_X12_init_470 0 rfl ?_
  refine aw_sipush (v := 300) d_X12_init_471 is_300 ?_
  refine aw_newa (t := 0) (atype := .int) 256 300 (by decide) rfl tw_51 (hn22 256 (by decide) (by decide)) (by decide) xs0 (by decide +kernel) (by decide +kernel) (by decide +kernel) (show 56 + 1 ≤ 100 from by decide +kernel) (show 273674 + 300 ≤ 288204 from by decide +kernel) d_X12_init_474 ?_
  refine aw_putrF (k0 := 73) kc_12 (ss_n hs21 (by decide)) (Nat.le_of_ble_eq_true rfl) tw_1815 d_X12_init_476 rfl rfl rfl rfl ?_
  have hs23 := ss_step (k := 256) (t := 0) (n := 300) (c' := 1) (s := 73) (r := some 256) hs21 (by decide)
  have hn24 := nn_step (k := 256) (t := 0) (n := 300) (c := 1) (s := 73) (r := some 256) hn22
  refine aw_aload_n (i := 0) rfl d_X12_init_479 0 rfl ?_
  refine aw_sipush (v := 300) d_X12_init_480 is_300 ?_
  refine aw_newa (t := 0) (atype := .int) 257 300 (by decide) rfl tw_51 (hn24 257 (by decide) (by decide)) (by decide) xs0 (by decide +kernel) (by decide +kernel) (by decide +kernel) (show 57 + 1 ≤ 100 from by decide +kernel) (show 273974 + 300 ≤ 288204 from by decide +kernel) d_X12_init_483 ?_
  refine aw_putrF (k0 := 74) kc_12 (ss_n hs23 (by decide)) (Nat.le_of_ble_eq_true rfl) tw_1816 d_X12_init_485 rfl rfl rfl rfl ?_
  have hs25 := ss_step (k := 257) (t := 0) (n := 300) (c' := 1) (s := 74) (r := some 257) hs23 (by decide)
  have hn26 := nn_step (k := 257) (t := 0) (n := 300) (c := 1) (s := 74) (r := some 257) hn24
  refine aw_aload_n (i := 0) rfl d_X12_init_488 0 rfl ?_
  refine aw_sipush (v := 300) d_X12_init_489 is_300 ?_
  refine aw_newa (t := 0) (atype := .int) 258 300 (by decide) rfl tw_51 (hn26 258 (by decide) (by decide)) (by decide) xs0 (by decide +kernel) (by decide +kernel) (by decide +kernel) (show 58 + 1 ≤ 100 from by decide +kernel) (show 274274 + 300 ≤ 288204 from by decide +kernel) d_X12_init_492 ?_
  refine aw_putrF (k0 := 75) kc_12 (ss_n hs25 (by decide)) (Nat.le_of_ble_eq_true rfl) tw_1817 d_X12_init_494 rfl rfl rfl rfl ?_
  have hs27 := ss_step (k := 258) (t := 0) (n := 300) (c' := 1) (s := 75) (r := some 258) hs25 (by decide)
  have hn28 := nn_step (k := 258) (t := 0) (n := 300) (c := 1) (s := 75) (r := some 258) hn26
  refine aw_aload_n (i := 0) rfl d_X12_init_497 0 rfl ?_
  refine aw_sipush (v := 300) d_X12_init_498 is_300 ?_
  refine aw_newa (t := 0) (atype := .int) 259 300 (by decide) rfl tw_51 (hn28 259 (by decide) (by decide)) (by decide) xs0 (by decide +kernel) (by decide +kernel) (by decide +kernel) (show 59 + 1 ≤ 100 from by decide +kernel) (show 274574 + 300 ≤ 288204 from by decide +kernel) d_X12_init_501 ?_
  refine aw_putrF (k0 := 76) kc_12 (ss_n hs27 (by decide)) (Nat.le_of_ble_eq_true rfl) tw_1818 d_X12_init_503 rfl rfl rfl rfl ?_
  have hs29 := ss_step (k := 259) (t := 0) (n := 300) (c' := 1) (s := 76) (r := some 259) hs27 (by decide)
  have hn30 := nn_step (k := 259) (t := 0) (n := 300) (c := 1) (s := 76) (r := some 259) hn28
  exact k
noncomputable def CC_4 (h : Hp_) : Hp_ := h_rm (h_nw (h_rm (h_nw (h_rm (h_nw (h_rm (h_nw (h_rm (h_nw (h_rm (h_nw (h_rm (h_nw (h_rm (h_nw (h_rm (h_nw (h_rm (h_nw (h_rm (h_nw (h_rm (h_nw (h_rm (h_nw (h_rm (h_nw (h_rm (h_nw h 260 0 300) 1 77 (some 260)) 261 0 2700) 1 78 (some 261)) 262 0 30) 1 81 (some 262)) 263 0 30) 1 82 (some 263)) 264 0 10) 1 83 (some 264)) 265 0 8) 1 84 (some 265)) 266 0 200) 1 85 (some 266)) 267 0 200) 1 86 (some 267)) 268 0 200) 1 87 (some 268)) 269 0 200) 1 88 (some 269)) 270 1 200) 1 89 (some 270)) 271 0 16) 1 90 (some 271)) 272 1 16) 1 91 (some 272)) 273 0 180) 1 92 (some 273)) 274 0 180) 1 93 (some 274)
theorem cf_4 (h : Hp_) (hs : h_sh h 1 = some (22, 131)) (hn : ∀ a, 260 ≤ a → a < 300 → h_sh h a = none) : h_sh (CC_4 h) 1 = some (22, 131) ∧ (∀ a, 275 ≤ a → a < 300 → h_sh (CC_4 h) a = none) ∧ h_r (CC_4 h) 1 84 = some 265 ∧ h_sh (CC_4 h) 265 = some (0, 8) := by
  have hs1 := ss_step (k := 260) (t := 0) (n := 300) (c' := 1) (s := 77) (r := some 260) hs (by decide)
  have hn2 := nn_step (k := 260) (t := 0) (n := 300) (c := 1) (s := 77) (r := some 260) hn
  have hs3 := ss_step (k := 261) (t := 0) (n := 2700) (c' := 1) (s := 78) (r := some 261) hs1 (by decide)
  have hn4 := nn_step (k := 261) (t := 0) (n := 2700) (c := 1) (s := 78) (r := some 261) hn2
  have hs5 := ss_step (k := 262) (t := 0) (n := 30) (c' := 1) (s := 81) (r := some 262) hs3 (by decide)
  have hn6 := nn_step (k := 262) (t := 0) (n := 30) (c := 1) (s := 81) (r := some 262) hn4
  have hs7 := ss_step (k := 263) (t := 0) (n := 30) (c' := 1) (s := 82) (r := some 263) hs5 (by decide)
  have hn8 := nn_step (k := 263) (t := 0) (n := 30) (c := 1) (s := 82) (r := some 263) hn6
  have hs9 := ss_step (k := 264) (t := 0) (n := 10) (c' := 1) (s := 83) (r := some 264) hs7 (by decide)
  have hn10 := nn_step (k := 264) (t := 0) (n := 10) (c := 1) (s := 83) (r := some 264) hn8
  have hs11 := ss_step (k := 265) (t := 0) (n := 8) (c' := 1) (s := 84) (r := some 265) hs9 (by decide)
  have hn12 := nn_step (k := 265) (t := 0) (n := 8) (c := 1) (s := 84) (r := some 265) hn10
  have tr13 := rr_of hs11
  have ts14 := sh_of hs11
  have hs15 := ss_step (k := 266) (t := 0) (n := 200) (c' := 1) (s := 85) (r := some 266) hs11 (by decide)
  have hn16 := nn_step (k := 266) (t := 0) (n := 200) (c := 1) (s := 85) (r := some 266) hn12
  have tr17 := rr_step (k := 266) (t := 0) (n := 200) (c := 1) (s := 85) (r := some 266) tr13 (by decide) (by decide)
  have ts18 := ss_step (k := 266) (t := 0) (n := 200) (c' := 1) (s := 85) (r := some 266) ts14 (by decide)
  have hs19 := ss_step (k := 267) (t := 0) (n := 200) (c' := 1) (s := 86) (r := some 267) hs15 (by decide)
  have hn20 := nn_step (k := 267) (t := 0) (n := 200) (c := 1) (s := 86) (r := some 267) hn16
  have tr21 := rr_step (k := 267) (t := 0) (n := 200) (c := 1) (s := 86) (r := some 267) tr17 (by decide) (by decide)
  have ts22 := ss_step (k := 267) (t := 0) (n := 200) (c' := 1) (s := 86) (r := some 267) ts18 (by decide)
  have hs23 := ss_step (k := 268) (t := 0) (n := 200) (c' := 1) (s := 87) (r := some 268) hs19 (by decide)
  have hn24 := nn_step (k := 268) (t := 0) (n := 200) (c := 1) (s := 87) (r := some 268) hn20
  have tr25 := rr_step (k := 268) (t := 0) (n := 200) (c := 1) (s := 87) (r := some 268) tr21 (by decide) (by decide)
  have ts26 := ss_step (k := 268) (t := 0) (n := 200) (c' := 1) (s := 87) (r := some 268) ts22 (by decide)
  have hs27 := ss_step (k := 269) (t := 0) (n := 200) (c' := 1) (s := 88) (r := some 269) hs23 (by decide)
  have hn28 := nn_step (k := 269) (t := 0) (n := 200) (c := 1) (s := 88) (r := some 269) hn24
  have tr29 := rr_step (k := 269) (t := 0) (n := 200) (c := 1) (s := 88) (r := some 269) tr25 (by decide) (by decide)
  have ts30 := ss_step (k := 269) (t := 0) (n := 200) (c' := 1) (s := 88) (r := some 269) ts26 (by decide)
  have hs31 := ss_step (k := 270) (t := 1) (n := 200) (c' := 1) (s := 89) (r := some 270) hs27 (by decide)
  have hn32 := nn_step (k := 270) (t := 1) (n := 200) (c := 1) (s := 89) (r := some 270) hn28
  have tr33 := rr_step (k := 270) (t := 1) (n := 200) (c := 1) (s := 89) (r := some 270) tr29 (by decide) (by decide)
  have ts34 := ss_step (k := 270) (t := 1) (n := 200) (c' := 1) (s := 89) (r := some 270) ts30 (by decide)
  have hs35 := ss_step (k := 271) (t := 0) (n := 16) (c' := 1) (s := 90) (r := some 271) hs31 (by decide)
  have hn36 := nn_step (k := 271) (t := 0) (n := 16) (c := 1) (s := 90) (r := some 271) hn32
  have tr37 := rr_step (k := 271) (t := 0) (n := 16) (c := 1) (s := 90) (r := some 271) tr33 (by decide) (by decide)
  have ts38 := ss_step (k := 271) (t := 0) (n := 16) (c' := 1) (s := 90) (r := some 271) ts34 (by decide)
  have hs39 := ss_step (k := 272) (t := 1) (n := 16) (c' := 1) (s := 91) (r := some 272) hs35 (by decide)
  have hn40 := nn_step (k := 272) (t := 1) (n := 16) (c := 1) (s := 91) (r := some 272) hn36
  have tr41 := rr_step (k := 272) (t := 1) (n := 16) (c := 1) (s := 91) (r := some 272) tr37 (by decide) (by decide)
  have ts42 := ss_step (k := 272) (t := 1) (n := 16) (c' := 1) (s := 91) (r := some 272) ts38 (by decide)
  have hs43 := ss_step (k := 273) (t := 0) (n := 180) (c' := 1) (s := 92) (r := some 273) hs39 (by decide)
  have hn44 := nn_step (k := 273) (t := 0) (n := 180) (c := 1) (s := 92) (r := some 273) hn40
  have tr45 := rr_step (k := 273) (t := 0) (n := 180) (c := 1) (s := 92) (r := some 273) tr41 (by decide) (by decide)
  have ts46 := ss_step (k := 273) (t := 0) (n := 180) (c' := 1) (s := 92) (r := some 273) ts42 (by decide)
  have hs47 := ss_step (k := 274) (t := 0) (n := 180) (c' := 1) (s := 93) (r := some 274) hs43 (by decide)
  have hn48 := nn_step (k := 274) (t := 0) (n := 180) (c := 1) (s := 93) (r := some 274) hn44
  have tr49 := rr_step (k := 274) (t := 0) (n := 180) (c := 1) (s := 93) (r := some 274) tr45 (by decide) (by decide)
  have ts50 := ss_step (k := 274) (t := 0) (n := 180) (c' := 1) (s := 93) (r := some 274) ts46 (by decide)
  exact ⟨hs47, hn48, tr49, ts50⟩
theorem ck_4 (d : Nat) (h : Hp_) (K : Option Value → Hp_ → Prop) (hs : h_sh h 1 = some (22, 131)) (hn : ∀ a, 260 ≤ a → a < 300 → h_sh h a = none) (k : AW (m_X12_init (d + 1) 100 288204) 75 279344 635 [(0, .ref 1)] [] (CC_4 h) K) : AW (m_X12_init (d + 1) 100 288204) 60 274874 506 [(0, .ref 1)] [] h K := by
  refine aw_aload_n (i := 0) rfl d_X12_init_506 0 rfl ?_
  refine aw_sipush (v := 300) d_X12_init_507 is_300 ?_
  refine aw_newa (t := 0) (atype := .int) 260 300 (by decide) rfl tw_51 (hn 260 (by decide) (by decide)) (by decide) xs0 (by decide +kernel) (by decide +kernel) (by decide +kernel) (show 60 + 1 ≤ 100 from by decide +kernel) (show 274874 + 300 ≤ 288204 from by decide +kernel) d_X12_init_510 ?_
  refine aw_putrF (k0 := 77) kc_12 (ss_n hs (by decide)) (Nat.le_of_ble_eq_true rfl) tw_1819 d_X12_init_512 rfl rfl rfl rfl ?_
  have hs1 := ss_step (k := 260) (t := 0) (n := 300) (c' := 1) (s := 77) (r := some 260) hs (by decide)
  have hn2 := nn_step (k := 260) (t := 0) (n := 300) (c := 1) (s := 77) (r := some 260) hn
  refine aw_aload_n (i := 0) rfl d_X12_init_515 0 rfl ?_
  refine aw_sipush (v := 2700) d_X12_init_516 is_2700 ?_
  refine aw_newa (t := 0) (atype := .int) 261 2700 (by decide) rfl tw_51 (hn2 261 (by decide) (by decide)) (by decide) xs0 (by decide +kernel) (by decide +kernel) (by decide +kernel) (show 61 + 1 ≤ 100 from by decide +kernel) (show 275174 + 2700 ≤ 288204 from by decide +kernel) d_X12_init_519 ?_
  refine aw_putrF (k0 := 78) kc_12 (ss_n hs1 (by decide)) (Nat.le_of_ble_eq_true rfl) tw_1820 d_X12_init_521 rfl rfl rfl rfl ?_
  have hs3 := ss_step (k := 261) (t := 0) (n := 2700) (c' := 1) (s := 78) (r := some 261) hs1 (by decide)
  have hn4 := nn_step (k := 261) (t := 0) (n := 2700) (c := 1) (s := 78) (r := some 261) hn2
  refine aw_aload_n (i := 0) rfl d_X12_init_524 0 rfl ?_
  refine aw_bipush (v := 30) d_X12_init_525 ib_30 ?_
  refine aw_newa (t := 0) (atype := .int) 262 30 (by decide) rfl tw_51 (hn4 262 (by decide) (by decide)) (by decide) xs0 (by decide +kernel) (by decide +kernel) (by decide +kernel) (show 62 + 1 ≤ 100 from by decide +kernel) (show 277874 + 30 ≤ 288204 from by decide +kernel) d_X12_init_527 ?_
  refine aw_putrF (k0 := 81) kc_12 (ss_n hs3 (by decide)) (Nat.le_of_ble_eq_true rfl) tw_1823 d_X12_init_529 rfl rfl rfl rfl ?_
  have hs5 := ss_step (k := 262) (t := 0) (n := 30) (c' := 1) (s := 81) (r := some 262) hs3 (by decide)
  have hn6 := nn_step (k := 262) (t := 0) (n := 30) (c := 1) (s := 81) (r := some 262) hn4
  refine aw_aload_n (i := 0) rfl d_X12_init_532 0 rfl ?_
  refine aw_bipush (v := 30) d_X12_init_533 ib_30 ?_
  refine aw_newa (t := 0) (atype := .int) 263 30 (by decide) rfl tw_51 (hn6 263 (by decide) (by decide)) (by decide) xs0 (by decide +kernel) (by decide +kernel) (by decide +kernel) (show 63 + 1 ≤ 100 from by decide +kernel) (show 277904 + 30 ≤ 288204 from by decide +kernel) d_X12_init_535 ?_
  refine aw_putrF (k0 := 82) kc_12 (ss_n hs5 (by decide)) (Nat.le_of_ble_eq_true rfl) tw_1824 d_X12_init_537 rfl rfl rfl rfl ?_
  have hs7 := ss_step (k := 263) (t := 0) (n := 30) (c' := 1) (s := 82) (r := some 263) hs5 (by decide)
  have hn8 := nn_step (k := 263) (t := 0) (n := 30) (c := 1) (s := 82) (r := some 263) hn6
  refine aw_aload_n (i := 0) rfl d_X12_init_540 0 rfl ?_
  refine aw_bipush (v := 10) d_X12_init_541 ib_10 ?_
  refine aw_newa (t := 0) (atype := .int) 264 10 (by decide) rfl tw_51 (hn8 264 (by decide) (by decide)) (by decide) xs0 (by decide +kernel) (by decide +kernel) (by decide +kernel) (show 64 + 1 ≤ 100 from by decide +kernel) (show 277934 + 10 ≤ 288204 from by decide +kernel) d_X12_init_543 ?_
  refine aw_putrF (k0 := 83) kc_12 (ss_n hs7 (by decide)) (Nat.le_of_ble_eq_true rfl) tw_1825 d_X12_init_545 rfl rfl rfl rfl ?_
  have hs9 := ss_step (k := 264) (t := 0) (n := 10) (c' := 1) (s := 83) (r := some 264) hs7 (by decide)
  have hn10 := nn_step (k := 264) (t := 0) (n := 10) (c := 1) (s := 83) (r := some 264) hn8
  refine aw_aload_n (i := 0) rfl d_X12_init_548 0 rfl ?_
  refine aw_bipush (v := 8) d_X12_init_549 ib_8 ?_
  refine aw_newa (t := 0) (atype := .int) 265 8 (by decide) rfl tw_51 (hn10 265 (by decide) (by decide)) (by decide) xs0 (by decide +kernel) (by decide +kernel) (by decide +kernel) (show 65 + 1 ≤ 100 from by decide +kernel) (show 277944 + 8 ≤ 288204 from by decide +kernel) d_X12_init_551 ?_
  refine aw_putrF (k0 := 84) kc_12 (ss_n hs9 (by decide)) (Nat.le_of_ble_eq_true rfl) tw_1826 d_X12_init_553 rfl rfl rfl rfl ?_
  have hs11 := ss_step (k := 265) (t := 0) (n := 8) (c' := 1) (s := 84) (r := some 265) hs9 (by decide)
  have hn12 := nn_step (k := 265) (t := 0) (n := 8) (c := 1) (s := 84) (r := some 265) hn10
  have tr13 := rr_of hs11
  have ts14 := sh_of hs11
  refine aw_aload_n (i := 0) rfl d_X12_init_556 0 rfl ?_
  refine aw_sipush (v := 200) d_X12_init_557 is_200 ?_
  refine aw_newa (t := 0) (atype := .int) 266 200 (by decide) rfl tw_51 (hn12 266 (by decide) (by decide)) (by decide) xs0 (by decide +kernel) (by decide +kernel) (by decide +kernel) (show 66 + 1 ≤ 100 from by decide +kernel) (show 277952 + 200 ≤ 288204 from by decide +kernel) d_X12_init_560 ?_
  refine aw_putrF (k0 := 85) kc_12 (ss_n hs11 (by decide)) (Nat.le_of_ble_eq_true rfl) tw_1827 d_X12_init_562 rfl rfl rfl rfl ?_
  have hs15 := ss_step (k := 266) (t := 0) (n := 200) (c' := 1) (s := 85) (r := some 266) hs11 (by decide)
  have hn16 := nn_step (k := 266) (t := 0) (n := 200) (c := 1) (s := 85) (r := some 266) hn12
  have tr17 := rr_step (k := 266) (t := 0) (n := 200) (c := 1) (s := 85) (r := some 266) tr13 (by decide) (by decide)
  have ts18 := ss_step (k := 266) (t := 0) (n := 200) (c' := 1) (s := 85) (r := some 266) ts14 (by decide)
  refine aw_aload_n (i := 0) rfl d_X12_init_565 0 rfl ?_
  refine aw_sipush (v := 200) d_X12_init_566 is_200 ?_
  refine aw_newa (t := 0) (atype := .int) 267 200 (by decide) rfl tw_51 (hn16 267 (by decide) (by decide)) (by decide) xs0 (by decide +kernel) (by decide +kernel) (by decide +kernel) (show 67 + 1 ≤ 100 from by decide +kernel) (show 278152 + 200 ≤ 288204 from by decide +kernel) d_X12_init_569 ?_
  refine aw_putrF (k0 := 86) kc_12 (ss_n hs15 (by decide)) (Nat.le_of_ble_eq_true rfl) tw_1828 d_X12_init_571 rfl rfl rfl rfl ?_
  have hs19 := ss_step (k := 267) (t := 0) (n := 200) (c' := 1) (s := 86) (r := some 267) hs15 (by decide)
  have hn20 := nn_step (k := 267) (t := 0) (n := 200) (c := 1) (s := 86) (r := some 267) hn16
  have tr21 := rr_step (k := 267) (t := 0) (n := 200) (c := 1) (s := 86) (r := some 267) tr17 (by decide) (by decide)
  have ts22 := ss_step (k := 267) (t := 0) (n := 200) (c' := 1) (s := 86) (r := some 267) ts18 (by decide)
  refine aw_aload_n (i := 0) rfl d_X12_init_574 0 rfl ?_
  refine aw_sipush (v := 200) d_X12_init_575 is_200 ?_
  refine aw_newa (t := 0) (atype := .int) 268 200 (by decide) rfl tw_51 (hn20 268 (by decide) (by decide)) (by decide) xs0 (by decide +kernel) (by decide +kernel) (by decide +kernel) (show 68 + 1 ≤ 100 from by decide +kernel) (show 278352 + 200 ≤ 288204 from by decide +kernel) d_X12_init_578 ?_
  refine aw_putrF (k0 := 87) kc_12 (ss_n hs19 (by decide)) (Nat.le_of_ble_eq_true rfl) tw_1829 d_X12_init_580 rfl rfl rfl rfl ?_
  have hs23 := ss_step (k := 268) (t := 0) (n := 200) (c' := 1) (s := 87) (r := some 268) hs19 (by decide)
  have hn24 := nn_step (k := 268) (t := 0) (n := 200) (c := 1) (s := 87) (r := some 268) hn20
  have tr25 := rr_step (k := 268) (t := 0) (n := 200) (c := 1) (s := 87) (r := some 268) tr21 (by decide) (by decide)
  have ts26 := ss_step (k := 268) (t := 0) (n := 200) (c' := 1) (s := 87) (r := some 268) ts22 (by decide)
  refine aw_aload_n (i := 0) rfl d_X12_init_583 0 rfl ?_
  refine aw_sipush (v := 200) d_X12_init_584 is_200 ?_
  refine aw_newa (t := 0) (atype := .int) 269 200 (by decide) rfl tw_51 (hn24 269 (by decide) (by decide)) (by decide) xs0 (by decide +kernel) (by decide +kernel) (by decide +kernel) (show 69 + 1 ≤ 100 from by decide +kernel) (show 278552 + 200 ≤ 288204 from by decide +kernel) d_X12_init_587 ?_
  refine aw_putrF (k0 := 88) kc_12 (ss_n hs23 (by decide)) (Nat.le_of_ble_eq_true rfl) tw_1830 d_X12_init_589 rfl rfl rfl rfl ?_
  have hs27 := ss_step (k := 269) (t := 0) (n := 200) (c' := 1) (s := 88) (r := some 269) hs23 (by decide)
  have hn28 := nn_step (k := 269) (t := 0) (n := 200) (c := 1) (s := 88) (r := some 269) hn24
  have tr29 := rr_step (k := 269) (t := 0) (n := 200) (c := 1) (s := 88) (r := some 269) tr25 (by decide) (by decide)
  have ts30 := ss_step (k := 269) (t := 0) (n := 200) (c' := 1) (s := 88) (r := some 269) ts26 (by decide)
  refine aw_aload_n (i := 0) rfl d_X12_init_592 0 rfl ?_
  refine aw_sipush (v := 200) d_X12_init_593 is_200 ?_
  refine aw_newa (t := 1) (atype := .boolean) 270 200 (by decide) rfl tw_252 (hn28 270 (by decide) (by decide)) (by decide) xs0 (by decide +kernel) (by decide +kernel) (by decide +kernel) (show 70 + 1 ≤ 100 from by decide +kernel) (show 278752 + 200 ≤ 288204 from by decide +kernel) d_X12_init_596 ?_
  refine aw_putrF (k0 := 89) kc_12 (ss_n hs27 (by decide)) (Nat.le_of_ble_eq_true rfl) tw_1831 d_X12_init_598 rfl rfl rfl rfl ?_
  have hs31 := ss_step (k := 270) (t := 1) (n := 200) (c' := 1) (s := 89) (r := some 270) hs27 (by decide)
  have hn32 := nn_step (k := 270) (t := 1) (n := 200) (c := 1) (s := 89) (r := some 270) hn28
  have tr33 := rr_step (k := 270) (t := 1) (n := 200) (c := 1) (s := 89) (r := some 270) tr29 (by decide) (by decide)
  have ts34 := ss_step (k := 270) (t := 1) (n := 200) (c' := 1) (s := 89) (r := some 270) ts30 (by decide)
  refine aw_aload_n (i := 0) rfl d_X12_init_601 0 rfl ?_
  refine aw_bipush (v := 16) d_X12_init_602 ib_16 ?_
  refine aw_newa (t := 0) (atype := .int) 271 16 (by decide) rfl tw_51 (hn32 271 (by decide) (by decide)) (by decide) xs0 (by decide +kernel) (by decide +kernel) (by decide +kernel) (show 71 + 1 ≤ 100 from by decide +kernel) (show 278952 + 16 ≤ 288204 from by decide +kernel) d_X12_init_604 ?_
  refine aw_putrF (k0 := 90) kc_12 (ss_n hs31 (by decide)) (Nat.le_of_ble_eq_true rfl) tw_1832 d_X12_init_606 rfl rfl rfl rfl ?_
  have hs35 := ss_step (k := 271) (t := 0) (n := 16) (c' := 1) (s := 90) (r := some 271) hs31 (by decide)
  have hn36 := nn_step (k := 271) (t := 0) (n := 16) (c := 1) (s := 90) (r := some 271) hn32
  have tr37 := rr_step (k := 271) (t := 0) (n := 16) (c := 1) (s := 90) (r := some 271) tr33 (by decide) (by decide)
  have ts38 := ss_step (k := 271) (t := 0) (n := 16) (c' := 1) (s := 90) (r := some 271) ts34 (by decide)
  refine aw_aload_n (i := 0) rfl d_X12_init_609 0 rfl ?_
  refine aw_bipush (v := 16) d_X12_init_610 ib_16 ?_
  refine aw_newa (t := 1) (atype := .boolean) 272 16 (by decide) rfl tw_252 (hn36 272 (by decide) (by decide)) (by decide) xs0 (by decide +kernel) (by decide +kernel) (by decide +kernel) (show 72 + 1 ≤ 100 from by decide +kernel) (show 278968 + 16 ≤ 288204 from by decide +kernel) d_X12_init_612 ?_
  refine aw_putrF (k0 := 91) kc_12 (ss_n hs35 (by decide)) (Nat.le_of_ble_eq_true rfl) tw_1833 d_X12_init_614 rfl rfl rfl rfl ?_
  have hs39 := ss_step (k := 272) (t := 1) (n := 16) (c' := 1) (s := 91) (r := some 272) hs35 (by decide)
  have hn40 := nn_step (k := 272) (t := 1) (n := 16) (c := 1) (s := 91) (r := some 272) hn36
  have tr41 := rr_step (k := 272) (t := 1) (n := 16) (c := 1) (s := 91) (r := some 272) tr37 (by decide) (by decide)
  have ts42 := ss_step (k := 272) (t := 1) (n := 16) (c' := 1) (s := 91) (r := some 272) ts38 (by decide)
  refine aw_aload_n (i := 0) rfl d_X12_init_617 0 rfl ?_
  refine aw_sipush (v := 180) d_X12_init_618 is_180 ?_
  refine aw_newa (t := 0) (atype := .int) 273 180 (by decide) rfl tw_51 (hn40 273 (by decide) (by decide)) (by decide) xs0 (by decide +kernel) (by decide +kernel) (by decide +kernel) (show 73 + 1 ≤ 100 from by decide +kernel) (show 278984 + 180 ≤ 288204 from by decide +kernel) d_X12_init_621 ?_
  refine aw_putrF (k0 := 92) kc_12 (ss_n hs39 (by decide)) (Nat.le_of_ble_eq_true rfl) tw_1834 d_X12_init_623 rfl rfl rfl rfl ?_
  have hs43 := ss_step (k := 273) (t := 0) (n := 180) (c' := 1) (s := 92) (r := some 273) hs39 (by decide)
  have hn44 := nn_step (k := 273) (t := 0) (n := 180) (c := 1) (s := 92) (r := some 273) hn40
  have tr45 := rr_step (k := 273) (t := 0) (n := 180) (c := 1) (s := 92) (r := some 273) tr41 (by decide) (by decide)
  have ts46 := ss_step (k := 273) (t := 0) (n := 180) (c' := 1) (s := 92) (r := some 273) ts42 (by decide)
  refine aw_aload_n (i := 0) rfl d_X12_init_626 0 rfl ?_
  refine aw_sipush (v := 180) d_X12_init_627 is_180 ?_
  refine aw_newa (t := 0) (atype := .int) 274 180 (by decide) rfl tw_51 (hn44 274 (by decide) (by decide)) (by decide) xs0 (by decide +kernel) (by decide +kernel) (by decide +kernel) (show 74 + 1 ≤ 100 from by decide +kernel) (show 279164 + 180 ≤ 288204 from by decide +kernel) d_X12_init_630 ?_
  refine aw_putrF (k0 := 93) kc_12 (ss_n hs43 (by decide)) (Nat.le_of_ble_eq_true rfl) tw_1835 d_X12_init_632 rfl rfl rfl rfl ?_
  have hs47 := ss_step (k := 274) (t := 0) (n := 180) (c' := 1) (s := 93) (r := some 274) hs43 (by decide)
  have hn48 := nn_step (k := 274) (t := 0) (n := 180) (c := 1) (s := 93) (r := some 274) hn44
  have tr49 := rr_step (k := 274) (t := 0) (n := 180) (c := 1) (s := 93) (r := some 274) tr45 (by decide) (by decide)
  have ts50 := ss_step (k := 274) (t := 0) (n := 180) (c' := 1) (s := 93) (r := some 274) ts46 (by decide)
  exact k
noncomputable def CC_5 (h : Hp_) : Hp_ := h_rm (h_nw (h_rm (h_nw (h_rm (h_nw (h_rm (h_nw (h_rm (h_nw (h_rm (h_nw (h_rm (h_nw (h_rm (h_nw (h_rm (h_nw (h_im (h_rm (h_nw (h_rm (h_nw (h_rm (h_nw (h_rm (h_nw (h_rm (h_nw h 275 0 180) 1 94 (some 275)) 276 0 30) 1 95 (some 276)) 277 0 30) 1 98 (some 277)) 278 0 8) 1 99 (some 278)) 279 0 8) 1 100 (some 279)) 1 103 3) 280 0 2304) 1 104 (some 280)) 281 0 8) 1 105 (some 281)) 282 0 8) 1 106 (some 282)) 283 0 8) 1 107 (some 283)) 284 0 5) 1 109 (some 284)) 285 0 5) 1 110 (some 285)) 286 0 5) 1 111 (some 286)) 287 0 5) 1 112 (some 287)) 288 0 4) 1 116 (some 288)
theorem cf_5 (h : Hp_) (hs : h_sh h 1 = some (22, 131)) (hn : ∀ a, 275 ≤ a → a < 300 → h_sh h a = none) (tr : h_r h 1 84 = some 265) (ts : h_sh h 265 = some (0, 8)) : h_sh (CC_5 h) 1 = some (22, 131) ∧ (∀ a, 289 ≤ a → a < 300 → h_sh (CC_5 h) a = none) ∧ h_r (CC_5 h) 1 84 = some 265 ∧ h_sh (CC_5 h) 265 = some (0, 8) := by
  have hs1 := ss_step (k := 275) (t := 0) (n := 180) (c' := 1) (s := 94) (r := some 275) hs (by decide)
  have hn2 := nn_step (k := 275) (t := 0) (n := 180) (c := 1) (s := 94) (r := some 275) hn
  have tr3 := rr_step (k := 275) (t := 0) (n := 180) (c := 1) (s := 94) (r := some 275) tr (by decide) (by decide)
  have ts4 := ss_step (k := 275) (t := 0) (n := 180) (c' := 1) (s := 94) (r := some 275) ts (by decide)
  have hs5 := ss_step (k := 276) (t := 0) (n := 30) (c' := 1) (s := 95) (r := some 276) hs1 (by decide)
  have hn6 := nn_step (k := 276) (t := 0) (n := 30) (c := 1) (s := 95) (r := some 276) hn2
  have tr7 := rr_step (k := 276) (t := 0) (n := 30) (c := 1) (s := 95) (r := some 276) tr3 (by decide) (by decide)
  have ts8 := ss_step (k := 276) (t := 0) (n := 30) (c' := 1) (s := 95) (r := some 276) ts4 (by decide)
  have hs9 := ss_step (k := 277) (t := 0) (n := 30) (c' := 1) (s := 98) (r := some 277) hs5 (by decide)
  have hn10 := nn_step (k := 277) (t := 0) (n := 30) (c := 1) (s := 98) (r := some 277) hn6
  have tr11 := rr_step (k := 277) (t := 0) (n := 30) (c := 1) (s := 98) (r := some 277) tr7 (by decide) (by decide)
  have ts12 := ss_step (k := 277) (t := 0) (n := 30) (c' := 1) (s := 98) (r := some 277) ts8 (by decide)
  have hs13 := ss_step (k := 278) (t := 0) (n := 8) (c' := 1) (s := 99) (r := some 278) hs9 (by decide)
  have hn14 := nn_step (k := 278) (t := 0) (n := 8) (c := 1) (s := 99) (r := some 278) hn10
  have tr15 := rr_step (k := 278) (t := 0) (n := 8) (c := 1) (s := 99) (r := some 278) tr11 (by decide) (by decide)
  have ts16 := ss_step (k := 278) (t := 0) (n := 8) (c' := 1) (s := 99) (r := some 278) ts12 (by decide)
  have hs17 := ss_step (k := 279) (t := 0) (n := 8) (c' := 1) (s := 100) (r := some 279) hs13 (by decide)
  have hn18 := nn_step (k := 279) (t := 0) (n := 8) (c := 1) (s := 100) (r := some 279) hn14
  have tr19 := rr_step (k := 279) (t := 0) (n := 8) (c := 1) (s := 100) (r := some 279) tr15 (by decide) (by decide)
  have ts20 := ss_step (k := 279) (t := 0) (n := 8) (c' := 1) (s := 100) (r := some 279) ts16 (by decide)
  have hs21 := ss_im (a := 1) (k := 103) (x := 3) hs17
  have hn22 := nn_im (b := 1) (k := 103) (x := 3) hn18
  have tr23 := rr_im (a := 1) (k := 103) (x := 3) tr19
  have ts24 := ss_im (a := 1) (k := 103) (x := 3) ts20
  have hs25 := ss_step (k := 280) (t := 0) (n := 2304) (c' := 1) (s := 104) (r := some 280) hs21 (by decide)
  have hn26 := nn_step (k := 280) (t := 0) (n := 2304) (c := 1) (s := 104) (r := some 280) hn22
  have tr27 := rr_step (k := 280) (t := 0) (n := 2304) (c := 1) (s := 104) (r := some 280) tr23 (by decide) (by decide)
  have ts28 := ss_step (k := 280) (t := 0) (n := 2304) (c' := 1) (s := 104) (r := some 280) ts24 (by decide)
  have hs29 := ss_step (k := 281) (t := 0) (n := 8) (c' := 1) (s := 105) (r := some 281) hs25 (by decide)
  have hn30 := nn_step (k := 281) (t := 0) (n := 8) (c := 1) (s := 105) (r := some 281) hn26
  have tr31 := rr_step (k := 281) (t := 0) (n := 8) (c := 1) (s := 105) (r := some 281) tr27 (by decide) (by decide)
  have ts32 := ss_step (k := 281) (t := 0) (n := 8) (c' := 1) (s := 105) (r := some 281) ts28 (by decide)
  have hs33 := ss_step (k := 282) (t := 0) (n := 8) (c' := 1) (s := 106) (r := some 282) hs29 (by decide)
  have hn34 := nn_step (k := 282) (t := 0) (n := 8) (c := 1) (s := 106) (r := some 282) hn30
  have tr35 := rr_step (k := 282) (t := 0) (n := 8) (c := 1) (s := 106) (r := some 282) tr31 (by decide) (by decide)
  have ts36 := ss_step (k := 282) (t := 0) (n := 8) (c' := 1) (s := 106) (r := some 282) ts32 (by decide)
  have hs37 := ss_step (k := 283) (t := 0) (n := 8) (c' := 1) (s := 107) (r := some 283) hs33 (by decide)
  have hn38 := nn_step (k := 283) (t := 0) (n := 8) (c := 1) (s := 107) (r := some 283) hn34
  have tr39 := rr_step (k := 283) (t := 0) (n := 8) (c := 1) (s := 107) (r := some 283) tr35 (by decide) (by decide)
  have ts40 := ss_step (k := 283) (t := 0) (n := 8) (c' := 1) (s := 107) (r := some 283) ts36 (by decide)
  have hs41 := ss_step (k := 284) (t := 0) (n := 5) (c' := 1) (s := 109) (r := some 284) hs37 (by decide)
  have hn42 := nn_step (k := 284) (t := 0) (n := 5) (c := 1) (s := 109) (r := some 284) hn38
  have tr43 := rr_step (k := 284) (t := 0) (n := 5) (c := 1) (s := 109) (r := some 284) tr39 (by decide) (by decide)
  have ts44 := ss_step (k := 284) (t := 0) (n := 5) (c' := 1) (s := 109) (r := some 284) ts40 (by decide)
  have hs45 := ss_step (k := 285) (t := 0) (n := 5) (c' := 1) (s := 110) (r := some 285) hs41 (by decide)
  have hn46 := nn_step (k := 285) (t := 0) (n := 5) (c := 1) (s := 110) (r := some 285) hn42
  have tr47 := rr_step (k := 285) (t := 0) (n := 5) (c := 1) (s := 110) (r := some 285) tr43 (by decide) (by decide)
  have ts48 := ss_step (k := 285) (t := 0) (n := 5) (c' := 1) (s := 110) (r := some 285) ts44 (by decide)
  have hs49 := ss_step (k := 286) (t := 0) (n := 5) (c' := 1) (s := 111) (r := some 286) hs45 (by decide)
  have hn50 := nn_step (k := 286) (t := 0) (n := 5) (c := 1) (s := 111) (r := some 286) hn46
  have tr51 := rr_step (k := 286) (t := 0) (n := 5) (c := 1) (s := 111) (r := some 286) tr47 (by decide) (by decide)
  have ts52 := ss_step (k := 286) (t := 0) (n := 5) (c' := 1) (s := 111) (r := some 286) ts48 (by decide)
  have hs53 := ss_step (k := 287) (t := 0) (n := 5) (c' := 1) (s := 112) (r := some 287) hs49 (by decide)
  have hn54 := nn_step (k := 287) (t := 0) (n := 5) (c := 1) (s := 112) (r := some 287) hn50
  have tr55 := rr_step (k := 287) (t := 0) (n := 5) (c := 1) (s := 112) (r := some 287) tr51 (by decide) (by decide)
  have ts56 := ss_step (k := 287) (t := 0) (n := 5) (c' := 1) (s := 112) (r := some 287) ts52 (by decide)
  have hs57 := ss_step (k := 288) (t := 0) (n := 4) (c' := 1) (s := 116) (r := some 288) hs53 (by decide)
  have hn58 := nn_step (k := 288) (t := 0) (n := 4) (c := 1) (s := 116) (r := some 288) hn54
  have tr59 := rr_step (k := 288) (t := 0) (n := 4) (c := 1) (s := 116) (r := some 288) tr55 (by decide) (by decide)
  have ts60 := ss_step (k := 288) (t := 0) (n := 4) (c' := 1) (s := 116) (r := some 288) ts56 (by decide)
  exact ⟨hs57, hn58, tr59, ts60⟩
theorem ck_5 (d : Nat) (h : Hp_) (K : Option Value → Hp_ → Prop) (hs : h_sh h 1 = some (22, 131)) (hn : ∀ a, 275 ≤ a → a < 300 → h_sh h a = none) (tr : h_r h 1 84 = some 265) (ts : h_sh h 265 = some (0, 8)) (k : AW (m_X12_init (d + 1) 100 288204) 89 281952 749 [(0, .ref 1)] [] (CC_5 h) K) : AW (m_X12_init (d + 1) 100 288204) 75 279344 635 [(0, .ref 1)] [] h K := by
  refine aw_aload_n (i := 0) rfl d_X12_init_635 0 rfl ?_
  refine aw_sipush (v := 180) d_X12_init_636 is_180 ?_
  refine aw_newa (t := 0) (atype := .int) 275 180 (by decide) rfl tw_51 (hn 275 (by decide) (by decide)) (by decide) xs0 (by decide +kernel) (by decide +kernel) (by decide +kernel) (show 75 + 1 ≤ 100 from by decide +kernel) (show 279344 + 180 ≤ 288204 from by decide +kernel) d_X12_init_639 ?_
  refine aw_putrF (k0 := 94) kc_12 (ss_n hs (by decide)) (Nat.le_of_ble_eq_true rfl) tw_1836 d_X12_init_641 rfl rfl rfl rfl ?_
  have hs1 := ss_step (k := 275) (t := 0) (n := 180) (c' := 1) (s := 94) (r := some 275) hs (by decide)
  have hn2 := nn_step (k := 275) (t := 0) (n := 180) (c := 1) (s := 94) (r := some 275) hn
  have tr3 := rr_step (k := 275) (t := 0) (n := 180) (c := 1) (s := 94) (r := some 275) tr (by decide) (by decide)
  have ts4 := ss_step (k := 275) (t := 0) (n := 180) (c' := 1) (s := 94) (r := some 275) ts (by decide)
  refine aw_aload_n (i := 0) rfl d_X12_init_644 0 rfl ?_
  refine aw_bipush (v := 30) d_X12_init_645 ib_30 ?_
  refine aw_newa (t := 0) (atype := .int) 276 30 (by decide) rfl tw_51 (hn2 276 (by decide) (by decide)) (by decide) xs0 (by decide +kernel) (by decide +kernel) (by decide +kernel) (show 76 + 1 ≤ 100 from by decide +kernel) (show 279524 + 30 ≤ 288204 from by decide +kernel) d_X12_init_647 ?_
  refine aw_putrF (k0 := 95) kc_12 (ss_n hs1 (by decide)) (Nat.le_of_ble_eq_true rfl) tw_1837 d_X12_init_649 rfl rfl rfl rfl ?_
  have hs5 := ss_step (k := 276) (t := 0) (n := 30) (c' := 1) (s := 95) (r := some 276) hs1 (by decide)
  have hn6 := nn_step (k := 276) (t := 0) (n := 30) (c := 1) (s := 95) (r := some 276) hn2
  have tr7 := rr_step (k := 276) (t := 0) (n := 30) (c := 1) (s := 95) (r := some 276) tr3 (by decide) (by decide)
  have ts8 := ss_step (k := 276) (t := 0) (n := 30) (c' := 1) (s := 95) (r := some 276) ts4 (by decide)
  refine aw_aload_n (i := 0) rfl d_X12_init_652 0 rfl ?_
  refine aw_bipush (v := 30) d_X12_init_653 ib_30 ?_
  refine aw_newa (t := 0) (atype := .int) 277 30 (by decide) rfl tw_51 (hn6 277 (by decide) (by decide)) (by decide) xs0 (by decide +kernel) (by decide +kernel) (by decide +kernel) (show 77 + 1 ≤ 100 from by decide +kernel) (show 279554 + 30 ≤ 288204 from by decide +kernel) d_X12_init_655 ?_
  refine aw_putrF (k0 := 98) kc_12 (ss_n hs5 (by decide)) (Nat.le_of_ble_eq_true rfl) tw_1840 d_X12_init_657 rfl rfl rfl rfl ?_
  have hs9 := ss_step (k := 277) (t := 0) (n := 30) (c' := 1) (s := 98) (r := some 277) hs5 (by decide)
  have hn10 := nn_step (k := 277) (t := 0) (n := 30) (c := 1) (s := 98) (r := some 277) hn6
  have tr11 := rr_step (k := 277) (t := 0) (n := 30) (c := 1) (s := 98) (r := some 277) tr7 (by decide) (by decide)
  have ts12 := ss_step (k := 277) (t := 0) (n := 30) (c' := 1) (s := 98) (r := some 277) ts8 (by decide)
  refine aw_aload_n (i := 0) rfl d_X12_init_660 0 rfl ?_
  refine aw_bipush (v := 8) d_X12_init_661 ib_8 ?_
  refine aw_newa (t := 0) (atype := .int) 278 8 (by decide) rfl tw_51 (hn10 278 (by decide) (by decide)) (by decide) xs0 (by decide +kernel) (by decide +kernel) (by decide +kernel) (show 78 + 1 ≤ 100 from by decide +kernel) (show 279584 + 8 ≤ 288204 from by decide +kernel) d_X12_init_663 ?_
  refine aw_putrF (k0 := 99) kc_12 (ss_n hs9 (by decide)) (Nat.le_of_ble_eq_true rfl) tw_1841 d_X12_init_665 rfl rfl rfl rfl ?_
  have hs13 := ss_step (k := 278) (t := 0) (n := 8) (c' := 1) (s := 99) (r := some 278) hs9 (by decide)
  have hn14 := nn_step (k := 278) (t := 0) (n := 8) (c := 1) (s := 99) (r := some 278) hn10
  have tr15 := rr_step (k := 278) (t := 0) (n := 8) (c := 1) (s := 99) (r := some 278) tr11 (by decide) (by decide)
  have ts16 := ss_step (k := 278) (t := 0) (n := 8) (c' := 1) (s := 99) (r := some 278) ts12 (by decide)
  refine aw_aload_n (i := 0) rfl d_X12_init_668 0 rfl ?_
  refine aw_bipush (v := 8) d_X12_init_669 ib_8 ?_
  refine aw_newa (t := 0) (atype := .int) 279 8 (by decide) rfl tw_51 (hn14 279 (by decide) (by decide)) (by decide) xs0 (by decide +kernel) (by decide +kernel) (by decide +kernel) (show 79 + 1 ≤ 100 from by decide +kernel) (show 279592 + 8 ≤ 288204 from by decide +kernel) d_X12_init_671 ?_
  refine aw_putrF (k0 := 100) kc_12 (ss_n hs13 (by decide)) (Nat.le_of_ble_eq_true rfl) tw_1842 d_X12_init_673 rfl rfl rfl rfl ?_
  have hs17 := ss_step (k := 279) (t := 0) (n := 8) (c' := 1) (s := 100) (r := some 279) hs13 (by decide)
  have hn18 := nn_step (k := 279) (t := 0) (n := 8) (c := 1) (s := 100) (r := some 279) hn14
  have tr19 := rr_step (k := 279) (t := 0) (n := 8) (c := 1) (s := 100) (r := some 279) tr15 (by decide) (by decide)
  have ts20 := ss_step (k := 279) (t := 0) (n := 8) (c' := 1) (s := 100) (r := some 279) ts16 (by decide)
  refine aw_aload_n (i := 0) rfl d_X12_init_676 0 rfl ?_
  refine aw_iconst (v := 3) d_X12_init_677 ic_3 ?_
  refine aw_puti (k0 := 103) kc_12 hs17 (Nat.le_of_ble_eq_true rfl) tw_1845 d_X12_init_678 rfl rfl nf_i ?_
  have hs21 := ss_im (a := 1) (k := 103) (x := 3) hs17
  have hn22 := nn_im (b := 1) (k := 103) (x := 3) hn18
  have tr23 := rr_im (a := 1) (k := 103) (x := 3) tr19
  have ts24 := ss_im (a := 1) (k := 103) (x := 3) ts20
  refine aw_aload_n (i := 0) rfl d_X12_init_681 0 rfl ?_
  refine aw_sipush (v := 2304) d_X12_init_682 is_2304 ?_
  refine aw_newa (t := 0) (atype := .int) 280 2304 (by decide) rfl tw_51 (hn22 280 (by decide) (by decide)) (by decide) xs0 (by decide +kernel) (by decide +kernel) (by decide +kernel) (show 80 + 1 ≤ 100 from by decide +kernel) (show 279600 + 2304 ≤ 288204 from by decide +kernel) d_X12_init_685 ?_
  refine aw_putrF (k0 := 104) kc_12 (ss_n hs21 (by decide)) (Nat.le_of_ble_eq_true rfl) tw_1846 d_X12_init_687 rfl rfl rfl rfl ?_
  have hs25 := ss_step (k := 280) (t := 0) (n := 2304) (c' := 1) (s := 104) (r := some 280) hs21 (by decide)
  have hn26 := nn_step (k := 280) (t := 0) (n := 2304) (c := 1) (s := 104) (r := some 280) hn22
  have tr27 := rr_step (k := 280) (t := 0) (n := 2304) (c := 1) (s := 104) (r := some 280) tr23 (by decide) (by decide)
  have ts28 := ss_step (k := 280) (t := 0) (n := 2304) (c' := 1) (s := 104) (r := some 280) ts24 (by decide)
  refine aw_aload_n (i := 0) rfl d_X12_init_690 0 rfl ?_
  refine aw_bipush (v := 8) d_X12_init_691 ib_8 ?_
  refine aw_newa (t := 0) (atype := .int) 281 8 (by decide) rfl tw_51 (hn26 281 (by decide) (by decide)) (by decide) xs0 (by decide +kernel) (by decide +kernel) (by decide +kernel) (show 81 + 1 ≤ 100 from by decide +kernel) (show 281904 + 8 ≤ 288204 from by decide +kernel) d_X12_init_693 ?_
  refine aw_putrF (k0 := 105) kc_12 (ss_n hs25 (by decide)) (Nat.le_of_ble_eq_true rfl) tw_1847 d_X12_init_695 rfl rfl rfl rfl ?_
  have hs29 := ss_step (k := 281) (t := 0) (n := 8) (c' := 1) (s := 105) (r := some 281) hs25 (by decide)
  have hn30 := nn_step (k := 281) (t := 0) (n := 8) (c := 1) (s := 105) (r := some 281) hn26
  have tr31 := rr_step (k := 281) (t := 0) (n := 8) (c := 1) (s := 105) (r := some 281) tr27 (by decide) (by decide)
  have ts32 := ss_step (k := 281) (t := 0) (n := 8) (c' := 1) (s := 105) (r := some 281) ts28 (by decide)
  refine aw_aload_n (i := 0) rfl d_X12_init_698 0 rfl ?_
  refine aw_bipush (v := 8) d_X12_init_699 ib_8 ?_
  refine aw_newa (t := 0) (atype := .int) 282 8 (by decide) rfl tw_51 (hn30 282 (by decide) (by decide)) (by decide) xs0 (by decide +kernel) (by decide +kernel) (by decide +kernel) (show 82 + 1 ≤ 100 from by decide +kernel) (show 281912 + 8 ≤ 288204 from by decide +kernel) d_X12_init_701 ?_
  refine aw_putrF (k0 := 106) kc_12 (ss_n hs29 (by decide)) (Nat.le_of_ble_eq_true rfl) tw_1848 d_X12_init_703 rfl rfl rfl rfl ?_
  have hs33 := ss_step (k := 282) (t := 0) (n := 8) (c' := 1) (s := 106) (r := some 282) hs29 (by decide)
  have hn34 := nn_step (k := 282) (t := 0) (n := 8) (c := 1) (s := 106) (r := some 282) hn30
  have tr35 := rr_step (k := 282) (t := 0) (n := 8) (c := 1) (s := 106) (r := some 282) tr31 (by decide) (by decide)
  have ts36 := ss_step (k := 282) (t := 0) (n := 8) (c' := 1) (s := 106) (r := some 282) ts32 (by decide)
  refine aw_aload_n (i := 0) rfl d_X12_init_706 0 rfl ?_
  refine aw_bipush (v := 8) d_X12_init_707 ib_8 ?_
  refine aw_newa (t := 0) (atype := .int) 283 8 (by decide) rfl tw_51 (hn34 283 (by decide) (by decide)) (by decide) xs0 (by decide +kernel) (by decide +kernel) (by decide +kernel) (show 83 + 1 ≤ 100 from by decide +kernel) (show 281920 + 8 ≤ 288204 from by decide +kernel) d_X12_init_709 ?_
  refine aw_putrF (k0 := 107) kc_12 (ss_n hs33 (by decide)) (Nat.le_of_ble_eq_true rfl) tw_1849 d_X12_init_711 rfl rfl rfl rfl ?_
  have hs37 := ss_step (k := 283) (t := 0) (n := 8) (c' := 1) (s := 107) (r := some 283) hs33 (by decide)
  have hn38 := nn_step (k := 283) (t := 0) (n := 8) (c := 1) (s := 107) (r := some 283) hn34
  have tr39 := rr_step (k := 283) (t := 0) (n := 8) (c := 1) (s := 107) (r := some 283) tr35 (by decide) (by decide)
  have ts40 := ss_step (k := 283) (t := 0) (n := 8) (c' := 1) (s := 107) (r := some 283) ts36 (by decide)
  refine aw_aload_n (i := 0) rfl d_X12_init_714 0 rfl ?_
  refine aw_iconst (v := 5) d_X12_init_715 ic_5 ?_
  refine aw_newa (t := 0) (atype := .int) 284 5 (by decide) rfl tw_51 (hn38 284 (by decide) (by decide)) (by decide) xs0 (by decide +kernel) (by decide +kernel) (by decide +kernel) (show 84 + 1 ≤ 100 from by decide +kernel) (show 281928 + 5 ≤ 288204 from by decide +kernel) d_X12_init_716 ?_
  refine aw_putrF (k0 := 109) kc_12 (ss_n hs37 (by decide)) (Nat.le_of_ble_eq_true rfl) tw_1851 d_X12_init_718 rfl rfl rfl rfl ?_
  have hs41 := ss_step (k := 284) (t := 0) (n := 5) (c' := 1) (s := 109) (r := some 284) hs37 (by decide)
  have hn42 := nn_step (k := 284) (t := 0) (n := 5) (c := 1) (s := 109) (r := some 284) hn38
  have tr43 := rr_step (k := 284) (t := 0) (n := 5) (c := 1) (s := 109) (r := some 284) tr39 (by decide) (by decide)
  have ts44 := ss_step (k := 284) (t := 0) (n := 5) (c' := 1) (s := 109) (r := some 284) ts40 (by decide)
  refine aw_aload_n (i := 0) rfl d_X12_init_721 0 rfl ?_
  refine aw_iconst (v := 5) d_X12_init_722 ic_5 ?_
  refine aw_newa (t := 0) (atype := .int) 285 5 (by decide) rfl tw_51 (hn42 285 (by decide) (by decide)) (by decide) xs0 (by decide +kernel) (by decide +kernel) (by decide +kernel) (show 85 + 1 ≤ 100 from by decide +kernel) (show 281933 + 5 ≤ 288204 from by decide +kernel) d_X12_init_723 ?_
  refine aw_putrF (k0 := 110) kc_12 (ss_n hs41 (by decide)) (Nat.le_of_ble_eq_true rfl) tw_1852 d_X12_init_725 rfl rfl rfl rfl ?_
  have hs45 := ss_step (k := 285) (t := 0) (n := 5) (c' := 1) (s := 110) (r := some 285) hs41 (by decide)
  have hn46 := nn_step (k := 285) (t := 0) (n := 5) (c := 1) (s := 110) (r := some 285) hn42
  have tr47 := rr_step (k := 285) (t := 0) (n := 5) (c := 1) (s := 110) (r := some 285) tr43 (by decide) (by decide)
  have ts48 := ss_step (k := 285) (t := 0) (n := 5) (c' := 1) (s := 110) (r := some 285) ts44 (by decide)
  refine aw_aload_n (i := 0) rfl d_X12_init_728 0 rfl ?_
  refine aw_iconst (v := 5) d_X12_init_729 ic_5 ?_
  refine aw_newa (t := 0) (atype := .int) 286 5 (by decide) rfl tw_51 (hn46 286 (by decide) (by decide)) (by decide) xs0 (by decide +kernel) (by decide +kernel) (by decide +kernel) (show 86 + 1 ≤ 100 from by decide +kernel) (show 281938 + 5 ≤ 288204 from by decide +kernel) d_X12_init_730 ?_
  refine aw_putrF (k0 := 111) kc_12 (ss_n hs45 (by decide)) (Nat.le_of_ble_eq_true rfl) tw_1853 d_X12_init_732 rfl rfl rfl rfl ?_
  have hs49 := ss_step (k := 286) (t := 0) (n := 5) (c' := 1) (s := 111) (r := some 286) hs45 (by decide)
  have hn50 := nn_step (k := 286) (t := 0) (n := 5) (c := 1) (s := 111) (r := some 286) hn46
  have tr51 := rr_step (k := 286) (t := 0) (n := 5) (c := 1) (s := 111) (r := some 286) tr47 (by decide) (by decide)
  have ts52 := ss_step (k := 286) (t := 0) (n := 5) (c' := 1) (s := 111) (r := some 286) ts48 (by decide)
  refine aw_aload_n (i := 0) rfl d_X12_init_735 0 rfl ?_
  refine aw_iconst (v := 5) d_X12_init_736 ic_5 ?_
  refine aw_newa (t := 0) (atype := .int) 287 5 (by decide) rfl tw_51 (hn50 287 (by decide) (by decide)) (by decide) xs0 (by decide +kernel) (by decide +kernel) (by decide +kernel) (show 87 + 1 ≤ 100 from by decide +kernel) (show 281943 + 5 ≤ 288204 from by decide +kernel) d_X12_init_737 ?_
  refine aw_putrF (k0 := 112) kc_12 (ss_n hs49 (by decide)) (Nat.le_of_ble_eq_true rfl) tw_1854 d_X12_init_739 rfl rfl rfl rfl ?_
  have hs53 := ss_step (k := 287) (t := 0) (n := 5) (c' := 1) (s := 112) (r := some 287) hs49 (by decide)
  have hn54 := nn_step (k := 287) (t := 0) (n := 5) (c := 1) (s := 112) (r := some 287) hn50
  have tr55 := rr_step (k := 287) (t := 0) (n := 5) (c := 1) (s := 112) (r := some 287) tr51 (by decide) (by decide)
  have ts56 := ss_step (k := 287) (t := 0) (n := 5) (c' := 1) (s := 112) (r := some 287) ts52 (by decide)
  refine aw_aload_n (i := 0) rfl d_X12_init_742 0 rfl ?_
  refine aw_iconst (v := 4) d_X12_init_743 ic_4 ?_
  refine aw_newa (t := 0) (atype := .int) 288 4 (by decide) rfl tw_51 (hn54 288 (by decide) (by decide)) (by decide) xs0 (by decide +kernel) (by decide +kernel) (by decide +kernel) (show 88 + 1 ≤ 100 from by decide +kernel) (show 281948 + 4 ≤ 288204 from by decide +kernel) d_X12_init_744 ?_
  refine aw_putrF (k0 := 116) kc_12 (ss_n hs53 (by decide)) (Nat.le_of_ble_eq_true rfl) tw_1858 d_X12_init_746 rfl rfl rfl rfl ?_
  have hs57 := ss_step (k := 288) (t := 0) (n := 4) (c' := 1) (s := 116) (r := some 288) hs53 (by decide)
  have hn58 := nn_step (k := 288) (t := 0) (n := 4) (c := 1) (s := 116) (r := some 288) hn54
  have tr59 := rr_step (k := 288) (t := 0) (n := 4) (c := 1) (s := 116) (r := some 288) tr55 (by decide) (by decide)
  have ts60 := ss_step (k := 288) (t := 0) (n := 4) (c' := 1) (s := 116) (r := some 288) ts56 (by decide)
  exact k
noncomputable def CC_6 (h : Hp_) : Hp_ := h_im (h_rm (h_nw (h_rm (h_nw (h_rm (h_nw (h_rm (h_nw (h_rm (h_nw (h_rm (h_nw (h_rm (h_nw (h_rm (h_nw (h_rm (h_nw (h_rm (h_nw (h_rm (h_nw h 289 0 4) 1 117 (some 289)) 290 0 4) 1 118 (some 290)) 291 0 3328) 1 120 (some 291)) 292 0 48) 1 121 (some 292)) 293 0 372) 1 122 (some 293)) 294 0 600) 1 123 (some 294)) 295 0 600) 1 124 (some 295)) 296 0 600) 1 125 (some 296)) 297 0 600) 1 126 (some 297)) 298 0 48) 1 128 (some 298)) 299 1 48) 1 129 (some 299)) 1 130 3
theorem cf_6 (h : Hp_) (hs : h_sh h 1 = some (22, 131)) (hn : ∀ a, 289 ≤ a → a < 300 → h_sh h a = none) (tr : h_r h 1 84 = some 265) (ts : h_sh h 265 = some (0, 8)) : h_sh (CC_6 h) 1 = some (22, 131) ∧ (∀ a, 300 ≤ a → a < 300 → h_sh (CC_6 h) a = none) ∧ h_r (CC_6 h) 1 84 = some 265 ∧ h_sh (CC_6 h) 265 = some (0, 8) := by
  have hs1 := ss_step (k := 289) (t := 0) (n := 4) (c' := 1) (s := 117) (r := some 289) hs (by decide)
  have hn2 := nn_step (k := 289) (t := 0) (n := 4) (c := 1) (s := 117) (r := some 289) hn
  have tr3 := rr_step (k := 289) (t := 0) (n := 4) (c := 1) (s := 117) (r := some 289) tr (by decide) (by decide)
  have ts4 := ss_step (k := 289) (t := 0) (n := 4) (c' := 1) (s := 117) (r := some 289) ts (by decide)
  have hs5 := ss_step (k := 290) (t := 0) (n := 4) (c' := 1) (s := 118) (r := some 290) hs1 (by decide)
  have hn6 := nn_step (k := 290) (t := 0) (n := 4) (c := 1) (s := 118) (r := some 290) hn2
  have tr7 := rr_step (k := 290) (t := 0) (n := 4) (c := 1) (s := 118) (r := some 290) tr3 (by decide) (by decide)
  have ts8 := ss_step (k := 290) (t := 0) (n := 4) (c' := 1) (s := 118) (r := some 290) ts4 (by decide)
  have hs9 := ss_step (k := 291) (t := 0) (n := 3328) (c' := 1) (s := 120) (r := some 291) hs5 (by decide)
  have hn10 := nn_step (k := 291) (t := 0) (n := 3328) (c := 1) (s := 120) (r := some 291) hn6
  have tr11 := rr_step (k := 291) (t := 0) (n := 3328) (c := 1) (s := 120) (r := some 291) tr7 (by decide) (by decide)
  have ts12 := ss_step (k := 291) (t := 0) (n := 3328) (c' := 1) (s := 120) (r := some 291) ts8 (by decide)
  have hs13 := ss_step (k := 292) (t := 0) (n := 48) (c' := 1) (s := 121) (r := some 292) hs9 (by decide)
  have hn14 := nn_step (k := 292) (t := 0) (n := 48) (c := 1) (s := 121) (r := some 292) hn10
  have tr15 := rr_step (k := 292) (t := 0) (n := 48) (c := 1) (s := 121) (r := some 292) tr11 (by decide) (by decide)
  have ts16 := ss_step (k := 292) (t := 0) (n := 48) (c' := 1) (s := 121) (r := some 292) ts12 (by decide)
  have hs17 := ss_step (k := 293) (t := 0) (n := 372) (c' := 1) (s := 122) (r := some 293) hs13 (by decide)
  have hn18 := nn_step (k := 293) (t := 0) (n := 372) (c := 1) (s := 122) (r := some 293) hn14
  have tr19 := rr_step (k := 293) (t := 0) (n := 372) (c := 1) (s := 122) (r := some 293) tr15 (by decide) (by decide)
  have ts20 := ss_step (k := 293) (t := 0) (n := 372) (c' := 1) (s := 122) (r := some 293) ts16 (by decide)
  have hs21 := ss_step (k := 294) (t := 0) (n := 600) (c' := 1) (s := 123) (r := some 294) hs17 (by decide)
  have hn22 := nn_step (k := 294) (t := 0) (n := 600) (c := 1) (s := 123) (r := some 294) hn18
  have tr23 := rr_step (k := 294) (t := 0) (n := 600) (c := 1) (s := 123) (r := some 294) tr19 (by decide) (by decide)
  have ts24 := ss_step (k := 294) (t := 0) (n := 600) (c' := 1) (s := 123) (r := some 294) ts20 (by decide)
  have hs25 := ss_step (k := 295) (t := 0) (n := 600) (c' := 1) (s := 124) (r := some 295) hs21 (by decide)
  have hn26 := nn_step (k := 295) (t := 0) (n := 600) (c := 1) (s := 124) (r := some 295) hn22
  have tr27 := rr_step (k := 295) (t := 0) (n := 600) (c := 1) (s := 124) (r := some 295) tr23 (by decide) (by decide)
  have ts28 := ss_step (k := 295) (t := 0) (n := 600) (c' := 1) (s := 124) (r := some 295) ts24 (by decide)
  have hs29 := ss_step (k := 296) (t := 0) (n := 600) (c' := 1) (s := 125) (r := some 296) hs25 (by decide)
  have hn30 := nn_step (k := 296) (t := 0) (n := 600) (c := 1) (s := 125) (r := some 296) hn26
  have tr31 := rr_step (k := 296) (t := 0) (n := 600) (c := 1) (s := 125) (r := some 296) tr27 (by decide) (by decide)
  have ts32 := ss_step (k := 296) (t := 0) (n := 600) (c' := 1) (s := 125) (r := some 296) ts28 (by decide)
  have hs33 := ss_step (k := 297) (t := 0) (n := 600) (c' := 1) (s := 126) (r := some 297) hs29 (by decide)
  have hn34 := nn_step (k := 297) (t := 0) (n := 600) (c := 1) (s := 126) (r := some 297) hn30
  have tr35 := rr_step (k := 297) (t := 0) (n := 600) (c := 1) (s := 126) (r := some 297) tr31 (by decide) (by decide)
  have ts36 := ss_step (k := 297) (t := 0) (n := 600) (c' := 1) (s := 126) (r := some 297) ts32 (by decide)
  have hs37 := ss_step (k := 298) (t := 0) (n := 48) (c' := 1) (s := 128) (r := some 298) hs33 (by decide)
  have hn38 := nn_step (k := 298) (t := 0) (n := 48) (c := 1) (s := 128) (r := some 298) hn34
  have tr39 := rr_step (k := 298) (t := 0) (n := 48) (c := 1) (s := 128) (r := some 298) tr35 (by decide) (by decide)
  have ts40 := ss_step (k := 298) (t := 0) (n := 48) (c' := 1) (s := 128) (r := some 298) ts36 (by decide)
  have hs41 := ss_step (k := 299) (t := 1) (n := 48) (c' := 1) (s := 129) (r := some 299) hs37 (by decide)
  have hn42 := nn_step (k := 299) (t := 1) (n := 48) (c := 1) (s := 129) (r := some 299) hn38
  have tr43 := rr_step (k := 299) (t := 1) (n := 48) (c := 1) (s := 129) (r := some 299) tr39 (by decide) (by decide)
  have ts44 := ss_step (k := 299) (t := 1) (n := 48) (c' := 1) (s := 129) (r := some 299) ts40 (by decide)
  have hs45 := ss_im (a := 1) (k := 130) (x := 3) hs41
  have hn46 := nn_im (b := 1) (k := 130) (x := 3) hn42
  have tr47 := rr_im (a := 1) (k := 130) (x := 3) tr43
  have ts48 := ss_im (a := 1) (k := 130) (x := 3) ts44
  exact ⟨hs45, hn46, tr47, ts48⟩
theorem ck_6 (d : Nat) (h : Hp_) (K : Option Value → Hp_ → Prop) (hs : h_sh h 1 = some (22, 131)) (hn : ∀ a, 289 ≤ a → a < 300 → h_sh h a = none) (tr : h_r h 1 84 = some 265) (ts : h_sh h 265 = some (0, 8)) (k : AW (m_X12_init (d + 1) 100 288204) 100 288204 846 [(0, .ref 1)] [] (CC_6 h) K) : AW (m_X12_init (d + 1) 100 288204) 89 281952 749 [(0, .ref 1)] [] h K := by
  refine aw_aload_n (i := 0) rfl d_X12_init_749 0 rfl ?_
  refine aw_iconst (v := 4) d_X12_init_750 ic_4 ?_
  refine aw_newa (t := 0) (atype := .int) 289 4 (by decide) rfl tw_51 (hn 289 (by decide) (by decide)) (by decide) xs0 (by decide +kernel) (by decide +kernel) (by decide +kernel) (show 89 + 1 ≤ 100 from by decide +kernel) (show 281952 + 4 ≤ 288204 from by decide +kernel) d_X12_init_751 ?_
  refine aw_putrF (k0 := 117) kc_12 (ss_n hs (by decide)) (Nat.le_of_ble_eq_true rfl) tw_1859 d_X12_init_753 rfl rfl rfl rfl ?_
  have hs1 := ss_step (k := 289) (t := 0) (n := 4) (c' := 1) (s := 117) (r := some 289) hs (by decide)
  have hn2 := nn_step (k := 289) (t := 0) (n := 4) (c := 1) (s := 117) (r := some 289) hn
  have tr3 := rr_step (k := 289) (t := 0) (n := 4) (c := 1) (s := 117) (r := some 289) tr (by decide) (by decide)
  have ts4 := ss_step (k := 289) (t := 0) (n := 4) (c' := 1) (s := 117) (r := some 289) ts (by decide)
  refine aw_aload_n (i := 0) rfl d_X12_init_756 0 rfl ?_
  refine aw_iconst (v := 4) d_X12_init_757 ic_4 ?_
  refine aw_newa (t := 0) (atype := .int) 290 4 (by decide) rfl tw_51 (hn2 290 (by decide) (by decide)) (by decide) xs0 (by decide +kernel) (by decide +kernel) (by decide +kernel) (show 90 + 1 ≤ 100 from by decide +kernel) (show 281956 + 4 ≤ 288204 from by decide +kernel) d_X12_init_758 ?_
  refine aw_putrF (k0 := 118) kc_12 (ss_n hs1 (by decide)) (Nat.le_of_ble_eq_true rfl) tw_1860 d_X12_init_760 rfl rfl rfl rfl ?_
  have hs5 := ss_step (k := 290) (t := 0) (n := 4) (c' := 1) (s := 118) (r := some 290) hs1 (by decide)
  have hn6 := nn_step (k := 290) (t := 0) (n := 4) (c := 1) (s := 118) (r := some 290) hn2
  have tr7 := rr_step (k := 290) (t := 0) (n := 4) (c := 1) (s := 118) (r := some 290) tr3 (by decide) (by decide)
  have ts8 := ss_step (k := 290) (t := 0) (n := 4) (c' := 1) (s := 118) (r := some 290) ts4 (by decide)
  refine aw_aload_n (i := 0) rfl d_X12_init_763 0 rfl ?_
  refine aw_sipush (v := 3328) d_X12_init_764 is_3328 ?_
  refine aw_newa (t := 0) (atype := .int) 291 3328 (by decide) rfl tw_51 (hn6 291 (by decide) (by decide)) (by decide) xs0 (by decide +kernel) (by decide +kernel) (by decide +kernel) (show 91 + 1 ≤ 100 from by decide +kernel) (show 281960 + 3328 ≤ 288204 from by decide +kernel) d_X12_init_767 ?_
  refine aw_putrF (k0 := 120) kc_12 (ss_n hs5 (by decide)) (Nat.le_of_ble_eq_true rfl) tw_1862 d_X12_init_769 rfl rfl rfl rfl ?_
  have hs9 := ss_step (k := 291) (t := 0) (n := 3328) (c' := 1) (s := 120) (r := some 291) hs5 (by decide)
  have hn10 := nn_step (k := 291) (t := 0) (n := 3328) (c := 1) (s := 120) (r := some 291) hn6
  have tr11 := rr_step (k := 291) (t := 0) (n := 3328) (c := 1) (s := 120) (r := some 291) tr7 (by decide) (by decide)
  have ts12 := ss_step (k := 291) (t := 0) (n := 3328) (c' := 1) (s := 120) (r := some 291) ts8 (by decide)
  refine aw_aload_n (i := 0) rfl d_X12_init_772 0 rfl ?_
  refine aw_bipush (v := 48) d_X12_init_773 ib_48 ?_
  refine aw_newa (t := 0) (atype := .int) 292 48 (by decide) rfl tw_51 (hn10 292 (by decide) (by decide)) (by decide) xs0 (by decide +kernel) (by decide +kernel) (by decide +kernel) (show 92 + 1 ≤ 100 from by decide +kernel) (show 285288 + 48 ≤ 288204 from by decide +kernel) d_X12_init_775 ?_
  refine aw_putrF (k0 := 121) kc_12 (ss_n hs9 (by decide)) (Nat.le_of_ble_eq_true rfl) tw_1863 d_X12_init_777 rfl rfl rfl rfl ?_
  have hs13 := ss_step (k := 292) (t := 0) (n := 48) (c' := 1) (s := 121) (r := some 292) hs9 (by decide)
  have hn14 := nn_step (k := 292) (t := 0) (n := 48) (c := 1) (s := 121) (r := some 292) hn10
  have tr15 := rr_step (k := 292) (t := 0) (n := 48) (c := 1) (s := 121) (r := some 292) tr11 (by decide) (by decide)
  have ts16 := ss_step (k := 292) (t := 0) (n := 48) (c' := 1) (s := 121) (r := some 292) ts12 (by decide)
  refine aw_aload_n (i := 0) rfl d_X12_init_780 0 rfl ?_
  refine aw_sipush (v := 372) d_X12_init_781 is_372 ?_
  refine aw_newa (t := 0) (atype := .int) 293 372 (by decide) rfl tw_51 (hn14 293 (by decide) (by decide)) (by decide) xs0 (by decide +kernel) (by decide +kernel) (by decide +kernel) (show 93 + 1 ≤ 100 from by decide +kernel) (show 285336 + 372 ≤ 288204 from by decide +kernel) d_X12_init_784 ?_
  refine aw_putrF (k0 := 122) kc_12 (ss_n hs13 (by decide)) (Nat.le_of_ble_eq_true rfl) tw_1864 d_X12_init_786 rfl rfl rfl rfl ?_
  have hs17 := ss_step (k := 293) (t := 0) (n := 372) (c' := 1) (s := 122) (r := some 293) hs13 (by decide)
  have hn18 := nn_step (k := 293) (t := 0) (n := 372) (c := 1) (s := 122) (r := some 293) hn14
  have tr19 := rr_step (k := 293) (t := 0) (n := 372) (c := 1) (s := 122) (r := some 293) tr15 (by decide) (by decide)
  have ts20 := ss_step (k := 293) (t := 0) (n := 372) (c' := 1) (s := 122) (r := some 293) ts16 (by decide)
  refine aw_aload_n (i := 0) rfl d_X12_init_789 0 rfl ?_
  refine aw_sipush (v := 600) d_X12_init_790 is_600 ?_
  refine aw_newa (t := 0) (atype := .int) 294 600 (by decide) rfl tw_51 (hn18 294 (by decide) (by decide)) (by decide) xs0 (by decide +kernel) (by decide +kernel) (by decide +kernel) (show 94 + 1 ≤ 100 from by decide +kernel) (show 285708 + 600 ≤ 288204 from by decide +kernel) d_X12_init_793 ?_
  refine aw_putrF (k0 := 123) kc_12 (ss_n hs17 (by decide)) (Nat.le_of_ble_eq_true rfl) tw_1865 d_X12_init_795 rfl rfl rfl rfl ?_
  have hs21 := ss_step (k := 294) (t := 0) (n := 600) (c' := 1) (s := 123) (r := some 294) hs17 (by decide)
  have hn22 := nn_step (k := 294) (t := 0) (n := 600) (c := 1) (s := 123) (r := some 294) hn18
  have tr23 := rr_step (k := 294) (t := 0) (n := 600) (c := 1) (s := 123) (r := some 294) tr19 (by decide) (by decide)
  have ts24 := ss_step (k := 294) (t := 0) (n := 600) (c' := 1) (s := 123) (r := some 294) ts20 (by decide)
  refine aw_aload_n (i := 0) rfl d_X12_init_798 0 rfl ?_
  refine aw_sipush (v := 600) d_X12_init_799 is_600 ?_
  refine aw_newa (t := 0) (atype := .int) 295 600 (by decide) rfl tw_51 (hn22 295 (by decide) (by decide)) (by decide) xs0 (by decide +kernel) (by decide +kernel) (by decide +kernel) (show 95 + 1 ≤ 100 from by decide +kernel) (show 286308 + 600 ≤ 288204 from by decide +kernel) d_X12_init_802 ?_
  refine aw_putrF (k0 := 124) kc_12 (ss_n hs21 (by decide)) (Nat.le_of_ble_eq_true rfl) tw_1866 d_X12_init_804 rfl rfl rfl rfl ?_
  have hs25 := ss_step (k := 295) (t := 0) (n := 600) (c' := 1) (s := 124) (r := some 295) hs21 (by decide)
  have hn26 := nn_step (k := 295) (t := 0) (n := 600) (c := 1) (s := 124) (r := some 295) hn22
  have tr27 := rr_step (k := 295) (t := 0) (n := 600) (c := 1) (s := 124) (r := some 295) tr23 (by decide) (by decide)
  have ts28 := ss_step (k := 295) (t := 0) (n := 600) (c' := 1) (s := 124) (r := some 295) ts24 (by decide)
  refine aw_aload_n (i := 0) rfl d_X12_init_807 0 rfl ?_
  refine aw_sipush (v := 600) d_X12_init_808 is_600 ?_
  refine aw_newa (t := 0) (atype := .int) 296 600 (by decide) rfl tw_51 (hn26 296 (by decide) (by decide)) (by decide) xs0 (by decide +kernel) (by decide +kernel) (by decide +kernel) (show 96 + 1 ≤ 100 from by decide +kernel) (show 286908 + 600 ≤ 288204 from by decide +kernel) d_X12_init_811 ?_
  refine aw_putrF (k0 := 125) kc_12 (ss_n hs25 (by decide)) (Nat.le_of_ble_eq_true rfl) tw_1867 d_X12_init_813 rfl rfl rfl rfl ?_
  have hs29 := ss_step (k := 296) (t := 0) (n := 600) (c' := 1) (s := 125) (r := some 296) hs25 (by decide)
  have hn30 := nn_step (k := 296) (t := 0) (n := 600) (c := 1) (s := 125) (r := some 296) hn26
  have tr31 := rr_step (k := 296) (t := 0) (n := 600) (c := 1) (s := 125) (r := some 296) tr27 (by decide) (by decide)
  have ts32 := ss_step (k := 296) (t := 0) (n := 600) (c' := 1) (s := 125) (r := some 296) ts28 (by decide)
  refine aw_aload_n (i := 0) rfl d_X12_init_816 0 rfl ?_
  refine aw_sipush (v := 600) d_X12_init_817 is_600 ?_
  refine aw_newa (t := 0) (atype := .int) 297 600 (by decide) rfl tw_51 (hn30 297 (by decide) (by decide)) (by decide) xs0 (by decide +kernel) (by decide +kernel) (by decide +kernel) (show 97 + 1 ≤ 100 from by decide +kernel) (show 287508 + 600 ≤ 288204 from by decide +kernel) d_X12_init_820 ?_
  refine aw_putrF (k0 := 126) kc_12 (ss_n hs29 (by decide)) (Nat.le_of_ble_eq_true rfl) tw_1868 d_X12_init_822 rfl rfl rfl rfl ?_
  have hs33 := ss_step (k := 297) (t := 0) (n := 600) (c' := 1) (s := 126) (r := some 297) hs29 (by decide)
  have hn34 := nn_step (k := 297) (t := 0) (n := 600) (c := 1) (s := 126) (r := some 297) hn30
  have tr35 := rr_step (k := 297) (t := 0) (n := 600) (c := 1) (s := 126) (r := some 297) tr31 (by decide) (by decide)
  have ts36 := ss_step (k := 297) (t := 0) (n := 600) (c' := 1) (s := 126) (r := some 297) ts32 (by decide)
  refine aw_aload_n (i := 0) rfl d_X12_init_825 0 rfl ?_
  refine aw_bipush (v := 48) d_X12_init_826 ib_48 ?_
  refine aw_newa (t := 0) (atype := .int) 298 48 (by decide) rfl tw_51 (hn34 298 (by decide) (by decide)) (by decide) xs0 (by decide +kernel) (by decide +kernel) (by decide +kernel) (show 98 + 1 ≤ 100 from by decide +kernel) (show 288108 + 48 ≤ 288204 from by decide +kernel) d_X12_init_828 ?_
  refine aw_putrF (k0 := 128) kc_12 (ss_n hs33 (by decide)) (Nat.le_of_ble_eq_true rfl) tw_1870 d_X12_init_830 rfl rfl rfl rfl ?_
  have hs37 := ss_step (k := 298) (t := 0) (n := 48) (c' := 1) (s := 128) (r := some 298) hs33 (by decide)
  have hn38 := nn_step (k := 298) (t := 0) (n := 48) (c := 1) (s := 128) (r := some 298) hn34
  have tr39 := rr_step (k := 298) (t := 0) (n := 48) (c := 1) (s := 128) (r := some 298) tr35 (by decide) (by decide)
  have ts40 := ss_step (k := 298) (t := 0) (n := 48) (c' := 1) (s := 128) (r := some 298) ts36 (by decide)
  refine aw_aload_n (i := 0) rfl d_X12_init_833 0 rfl ?_
  refine aw_bipush (v := 48) d_X12_init_834 ib_48 ?_
  refine aw_newa (t := 1) (atype := .boolean) 299 48 (by decide) rfl tw_252 (hn38 299 (by decide) (by decide)) (by decide) xs0 (by decide +kernel) (by decide +kernel) (by decide +kernel) (show 99 + 1 ≤ 100 from by decide +kernel) (show 288156 + 48 ≤ 288204 from by decide +kernel) d_X12_init_836 ?_
  refine aw_putrF (k0 := 129) kc_12 (ss_n hs37 (by decide)) (Nat.le_of_ble_eq_true rfl) tw_1871 d_X12_init_838 rfl rfl rfl rfl ?_
  have hs41 := ss_step (k := 299) (t := 1) (n := 48) (c' := 1) (s := 129) (r := some 299) hs37 (by decide)
  have hn42 := nn_step (k := 299) (t := 1) (n := 48) (c := 1) (s := 129) (r := some 299) hn38
  have tr43 := rr_step (k := 299) (t := 1) (n := 48) (c := 1) (s := 129) (r := some 299) tr39 (by decide) (by decide)
  have ts44 := ss_step (k := 299) (t := 1) (n := 48) (c' := 1) (s := 129) (r := some 299) ts40 (by decide)
  refine aw_aload_n (i := 0) rfl d_X12_init_841 0 rfl ?_
  refine aw_iconst (v := 3) d_X12_init_842 ic_3 ?_
  refine aw_puti (k0 := 130) kc_12 hs41 (Nat.le_of_ble_eq_true rfl) tw_1872 d_X12_init_843 rfl rfl nf_i ?_
  have hs45 := ss_im (a := 1) (k := 130) (x := 3) hs41
  have hn46 := nn_im (b := 1) (k := 130) (x := 3) hn42
  have tr47 := rr_im (a := 1) (k := 130) (x := 3) tr43
  have ts48 := ss_im (a := 1) (k := 130) (x := 3) ts44
  exact k
noncomputable def CH_1 (h : Hp_) : Hp_ := h_im (h_im (h_im (h_im (h_im (h_im (h_im (h_im (CC_6 (CC_5 (CC_4 (CC_3 (CC_2 (CC_1 (CC_0 h))))))) 265 ((0 : Int32).toNatClampNeg) 1) 265 ((1 : Int32).toNatClampNeg) 1) 265 ((2 : Int32).toNatClampNeg) 1) 265 ((3 : Int32).toNatClampNeg) 1) 265 ((4 : Int32).toNatClampNeg) 1) 265 ((5 : Int32).toNatClampNeg) 1) 265 ((6 : Int32).toNatClampNeg) 1) 265 ((7 : Int32).toNatClampNeg) 1
theorem k_X12_init_1 (d : Nat) (h : Hp_) (hs : h_sh h 1 = some (22, 131)) (hn : ∀ a, 200 ≤ a → a < 300 → h_sh h a = none) : Cv (m_X12_init (d + 1) 100 288204) [.ref 1] h (fun h' => h' = CH_1 h) := by
  refine Ct.of (fun _ _ _ => trivial) rfl (Nat.le_of_ble_eq_true rfl) ?_
  show AW (m_X12_init (d + 1) 100 288204) 0 0 0 [(0, .ref 1)] [] h (kV _)
  refine aw_aload_n (i := 0) rfl d_X12_init_0 0 rfl ?_
  refine aw_objInit (rest := []) d_X12_init_1 tw_1740 tw_33 tw_34 (show 1 ≤ d + 1 by omega) (show 0 + 12 ≤ 100 * (d + 1) by omega) ?_
  have q0 := cf_0 h hs hn
  refine ck_0 d h _ hs hn ?_
  have q1 := cf_1 (CC_0 h) q0.1 q0.2
  refine ck_1 d (CC_0 h) _ q0.1 q0.2 ?_
  have q2 := cf_2 (CC_1 (CC_0 h)) q1.1 q1.2
  refine ck_2 d (CC_1 (CC_0 h)) _ q1.1 q1.2 ?_
  have q3 := cf_3 (CC_2 (CC_1 (CC_0 h))) q2.1 q2.2
  refine ck_3 d (CC_2 (CC_1 (CC_0 h))) _ q2.1 q2.2 ?_
  have q4 := cf_4 (CC_3 (CC_2 (CC_1 (CC_0 h)))) q3.1 q3.2
  refine ck_4 d (CC_3 (CC_2 (CC_1 (CC_0 h)))) _ q3.1 q3.2 ?_
  have q5 := cf_5 (CC_4 (CC_3 (CC_2 (CC_1 (CC_0 h))))) q4.1 q4.2.1 q4.2.2.1 q4.2.2.2
  refine ck_5 d (CC_4 (CC_3 (CC_2 (CC_1 (CC_0 h))))) _ q4.1 q4.2.1 q4.2.2.1 q4.2.2.2 ?_
  have q6 := cf_6 (CC_5 (CC_4 (CC_3 (CC_2 (CC_1 (CC_0 h)))))) q5.1 q5.2.1 q5.2.2.1 q5.2.2.2
  refine ck_6 d (CC_5 (CC_4 (CC_3 (CC_2 (CC_1 (CC_0 h)))))) _ q5.1 q5.2.1 q5.2.2.1 q5.2.2.2 ?_
  have hs0 := q6.1
  have tr0 := q6.2.2.1
  have ts0 := q6.2.2.2
  generalize hB : CC_6 (CC_5 (CC_4 (CC_3 (CC_2 (CC_1 (CC_0 h)))))) = B at hs0 tr0 ts0 ⊢
  refine aw_iconst (v := 0) d_X12_init_846 ic_0 ?_
  refine aw_istore_n (i := 1) rfl [(0, .ref 1), (1, .int 0)] d_X12_init_847 (Nat.le_of_ble_eq_true rfl) rfl rfl ?_
  refine aw_iload_n (i := 1) rfl d_X12_init_848 1 rfl ?_
  refine aw_bipush (v := 8) d_X12_init_849 ib_8 ?_
  refine aw_icmp_ge (tgt := 867) d_X12_init_851 rfl (fun c => absurd c (by decide)) (fun _ => ?_)
  refine aw_aload_n (i := 0) rfl d_X12_init_854 0 rfl ?_
  refine aw_getr (k0 := 84) (b := 265) kc_12 hs0 (Nat.le_of_ble_eq_true rfl) tw_1826 d_X12_init_855 rfl tr0 ?_
  refine aw_iload_n (i := 1) rfl d_X12_init_858 1 rfl ?_
  refine aw_iconst (v := 1) d_X12_init_859 ic_1 ?_
  refine aw_iast (n := 8) ts0 (vin_c (by decide)) d_X12_init_860 ?_
  have hs1 := ss_im (a := 265) (k := ((0 : Int32).toNatClampNeg)) (x := 1) hs0
  have tr1 := rr_im (a := 265) (k := ((0 : Int32).toNatClampNeg)) (x := 1) tr0
  have ts1 := ss_im (a := 265) (k := ((0 : Int32).toNatClampNeg)) (x := 1) ts0
  refine aw_iinc (v := 1) [(0, .ref 1), (1, .int 1)] d_X12_init_861 1 rfl (by decide) (Nat.le_of_ble_eq_true rfl) rfl rfl ?_
  refine aw_goto (tgt := 848) d_X12_init_864 rfl ?_
  refine aw_iload_n (i := 1) rfl d_X12_init_848 1 rfl ?_
  refine aw_bipush (v := 8) d_X12_init_849 ib_8 ?_
  refine aw_icmp_ge (tgt := 867) d_X12_init_851 rfl (fun c => absurd c (by decide)) (fun _ => ?_)
  refine aw_aload_n (i := 0) rfl d_X12_init_854 0 rfl ?_
  refine aw_getr (k0 := 84) (b := 265) kc_12 hs1 (Nat.le_of_ble_eq_true rfl) tw_1826 d_X12_init_855 rfl tr1 ?_
  refine aw_iload_n (i := 1) rfl d_X12_init_858 1 rfl ?_
  refine aw_iconst (v := 1) d_X12_init_859 ic_1 ?_
  refine aw_iast (n := 8) ts1 (vin_c (by decide)) d_X12_init_860 ?_
  have hs2 := ss_im (a := 265) (k := ((1 : Int32).toNatClampNeg)) (x := 1) hs1
  have tr2 := rr_im (a := 265) (k := ((1 : Int32).toNatClampNeg)) (x := 1) tr1
  have ts2 := ss_im (a := 265) (k := ((1 : Int32).toNatClampNeg)) (x := 1) ts1
  refine aw_iinc (v := 2) [(0, .ref 1), (1, .int 2)] d_X12_init_861 1 rfl (by decide) (Nat.le_of_ble_eq_true rfl) rfl rfl ?_
  refine aw_goto (tgt := 848) d_X12_init_864 rfl ?_
  refine aw_iload_n (i := 1) rfl d_X12_init_848 1 rfl ?_
  refine aw_bipush (v := 8) d_X12_init_849 ib_8 ?_
  refine aw_icmp_ge (tgt := 867) d_X12_init_851 rfl (fun c => absurd c (by decide)) (fun _ => ?_)
  refine aw_aload_n (i := 0) rfl d_X12_init_854 0 rfl ?_
  refine aw_getr (k0 := 84) (b := 265) kc_12 hs2 (Nat.le_of_ble_eq_true rfl) tw_1826 d_X12_init_855 rfl tr2 ?_
  refine aw_iload_n (i := 1) rfl d_X12_init_858 1 rfl ?_
  refine aw_iconst (v := 1) d_X12_init_859 ic_1 ?_
  refine aw_iast (n := 8) ts2 (vin_c (by decide)) d_X12_init_860 ?_
  have hs3 := ss_im (a := 265) (k := ((2 : Int32).toNatClampNeg)) (x := 1) hs2
  have tr3 := rr_im (a := 265) (k := ((2 : Int32).toNatClampNeg)) (x := 1) tr2
  have ts3 := ss_im (a := 265) (k := ((2 : Int32).toNatClampNeg)) (x := 1) ts2
  refine aw_iinc (v := 3) [(0, .ref 1), (1, .int 3)] d_X12_init_861 1 rfl (by decide) (Nat.le_of_ble_eq_true rfl) rfl rfl ?_
  refine aw_goto (tgt := 848) d_X12_init_864 rfl ?_
  refine aw_iload_n (i := 1) rfl d_X12_init_848 1 rfl ?_
  refine aw_bipush (v := 8) d_X12_init_849 ib_8 ?_
  refine aw_icmp_ge (tgt := 867) d_X12_init_851 rfl (fun c => absurd c (by decide)) (fun _ => ?_)
  refine aw_aload_n (i := 0) rfl d_X12_init_854 0 rfl ?_
  refine aw_getr (k0 := 84) (b := 265) kc_12 hs3 (Nat.le_of_ble_eq_true rfl) tw_1826 d_X12_init_855 rfl tr3 ?_
  refine aw_iload_n (i := 1) rfl d_X12_init_858 1 rfl ?_
  refine aw_iconst (v := 1) d_X12_init_859 ic_1 ?_
  refine aw_iast (n := 8) ts3 (vin_c (by decide)) d_X12_init_860 ?_
  have hs4 := ss_im (a := 265) (k := ((3 : Int32).toNatClampNeg)) (x := 1) hs3
  have tr4 := rr_im (a := 265) (k := ((3 : Int32).toNatClampNeg)) (x := 1) tr3
  have ts4 := ss_im (a := 265) (k := ((3 : Int32).toNatClampNeg)) (x := 1) ts3
  refine aw_iinc (v := 4) [(0, .ref 1), (1, .int 4)] d_X12_init_861 1 rfl (by decide) (Nat.le_of_ble_eq_true rfl) rfl rfl ?_
  refine aw_goto (tgt := 848) d_X12_init_864 rfl ?_
  refine aw_iload_n (i := 1) rfl d_X12_init_848 1 rfl ?_
  refine aw_bipush (v := 8) d_X12_init_849 ib_8 ?_
  refine aw_icmp_ge (tgt := 867) d_X12_init_851 rfl (fun c => absurd c (by decide)) (fun _ => ?_)
  refine aw_aload_n (i := 0) rfl d_X12_init_854 0 rfl ?_
  refine aw_getr (k0 := 84) (b := 265) kc_12 hs4 (Nat.le_of_ble_eq_true rfl) tw_1826 d_X12_init_855 rfl tr4 ?_
  refine aw_iload_n (i := 1) rfl d_X12_init_858 1 rfl ?_
  refine aw_iconst (v := 1) d_X12_init_859 ic_1 ?_
  refine aw_iast (n := 8) ts4 (vin_c (by decide)) d_X12_init_860 ?_
  have hs5 := ss_im (a := 265) (k := ((4 : Int32).toNatClampNeg)) (x := 1) hs4
  have tr5 := rr_im (a := 265) (k := ((4 : Int32).toNatClampNeg)) (x := 1) tr4
  have ts5 := ss_im (a := 265) (k := ((4 : Int32).toNatClampNeg)) (x := 1) ts4
  refine aw_iinc (v := 5) [(0, .ref 1), (1, .int 5)] d_X12_init_861 1 rfl (by decide) (Nat.le_of_ble_eq_true rfl) rfl rfl ?_
  refine aw_goto (tgt := 848) d_X12_init_864 rfl ?_
  refine aw_iload_n (i := 1) rfl d_X12_init_848 1 rfl ?_
  refine aw_bipush (v := 8) d_X12_init_849 ib_8 ?_
  refine aw_icmp_ge (tgt := 867) d_X12_init_851 rfl (fun c => absurd c (by decide)) (fun _ => ?_)
  refine aw_aload_n (i := 0) rfl d_X12_init_854 0 rfl ?_
  refine aw_getr (k0 := 84) (b := 265) kc_12 hs5 (Nat.le_of_ble_eq_true rfl) tw_1826 d_X12_init_855 rfl tr5 ?_
  refine aw_iload_n (i := 1) rfl d_X12_init_858 1 rfl ?_
  refine aw_iconst (v := 1) d_X12_init_859 ic_1 ?_
  refine aw_iast (n := 8) ts5 (vin_c (by decide)) d_X12_init_860 ?_
  have hs6 := ss_im (a := 265) (k := ((5 : Int32).toNatClampNeg)) (x := 1) hs5
  have tr6 := rr_im (a := 265) (k := ((5 : Int32).toNatClampNeg)) (x := 1) tr5
  have ts6 := ss_im (a := 265) (k := ((5 : Int32).toNatClampNeg)) (x := 1) ts5
  refine aw_iinc (v := 6) [(0, .ref 1), (1, .int 6)] d_X12_init_861 1 rfl (by decide) (Nat.le_of_ble_eq_true rfl) rfl rfl ?_
  refine aw_goto (tgt := 848) d_X12_init_864 rfl ?_
  refine aw_iload_n (i := 1) rfl d_X12_init_848 1 rfl ?_
  refine aw_bipush (v := 8) d_X12_init_849 ib_8 ?_
  refine aw_icmp_ge (tgt := 867) d_X12_init_851 rfl (fun c => absurd c (by decide)) (fun _ => ?_)
  refine aw_aload_n (i := 0) rfl d_X12_init_854 0 rfl ?_
  refine aw_getr (k0 := 84) (b := 265) kc_12 hs6 (Nat.le_of_ble_eq_true rfl) tw_1826 d_X12_init_855 rfl tr6 ?_
  refine aw_iload_n (i := 1) rfl d_X12_init_858 1 rfl ?_
  refine aw_iconst (v := 1) d_X12_init_859 ic_1 ?_
  refine aw_iast (n := 8) ts6 (vin_c (by decide)) d_X12_init_860 ?_
  have hs7 := ss_im (a := 265) (k := ((6 : Int32).toNatClampNeg)) (x := 1) hs6
  have tr7 := rr_im (a := 265) (k := ((6 : Int32).toNatClampNeg)) (x := 1) tr6
  have ts7 := ss_im (a := 265) (k := ((6 : Int32).toNatClampNeg)) (x := 1) ts6
  refine aw_iinc (v := 7) [(0, .ref 1), (1, .int 7)] d_X12_init_861 1 rfl (by decide) (Nat.le_of_ble_eq_true rfl) rfl rfl ?_
  refine aw_goto (tgt := 848) d_X12_init_864 rfl ?_
  refine aw_iload_n (i := 1) rfl d_X12_init_848 1 rfl ?_
  refine aw_bipush (v := 8) d_X12_init_849 ib_8 ?_
  refine aw_icmp_ge (tgt := 867) d_X12_init_851 rfl (fun c => absurd c (by decide)) (fun _ => ?_)
  refine aw_aload_n (i := 0) rfl d_X12_init_854 0 rfl ?_
  refine aw_getr (k0 := 84) (b := 265) kc_12 hs7 (Nat.le_of_ble_eq_true rfl) tw_1826 d_X12_init_855 rfl tr7 ?_
  refine aw_iload_n (i := 1) rfl d_X12_init_858 1 rfl ?_
  refine aw_iconst (v := 1) d_X12_init_859 ic_1 ?_
  refine aw_iast (n := 8) ts7 (vin_c (by decide)) d_X12_init_860 ?_
  have hs8 := ss_im (a := 265) (k := ((7 : Int32).toNatClampNeg)) (x := 1) hs7
  have tr8 := rr_im (a := 265) (k := ((7 : Int32).toNatClampNeg)) (x := 1) tr7
  have ts8 := ss_im (a := 265) (k := ((7 : Int32).toNatClampNeg)) (x := 1) ts7
  refine aw_iinc (v := 8) [(0, .ref 1), (1, .int 8)] d_X12_init_861 1 rfl (by decide) (Nat.le_of_ble_eq_true rfl) rfl rfl ?_
  refine aw_goto (tgt := 848) d_X12_init_864 rfl ?_
  refine aw_iload_n (i := 1) rfl d_X12_init_848 1 rfl ?_
  refine aw_bipush (v := 8) d_X12_init_849 ib_8 ?_
  refine aw_icmp_ge (tgt := 867) d_X12_init_851 rfl (fun _ => ?_) (fun c => absurd c (by decide))
  rw [← hB]
  exact aw_vret rfl d_X12_init_867 ⟨show 100 ≤ 100 from Nat.le_refl _, show 288204 ≤ 288204 from Nat.le_refl _⟩ ⟨rfl, rfl⟩
end
section
def hE : Hp_ := (fun _ => none, fun _ _ => 0, fun _ _ => 0, fun _ _ => none)
def G0 : Hp_ := h_nw hE 0 21 16
theorem rng_none {h : Hp_} {lo hi : Nat} (hc : (List.range (hi - lo)).all (fun i => (h_sh h (lo + i)).isNone) = true) : ∀ a, lo ≤ a → a < hi → h_sh h a = none := by
  intro a h1 h2
  have z := List.all_eq_true.mp hc (a - lo) (List.mem_range.mpr (by omega))
  rw [show lo + (a - lo) = a from by omega] at z
  exact Option.isNone_iff_eq_none.mp z
def G1 : Hp_ := h_nw G0 10 19 2
def G2 : Hp_ := CH_10 G1
def G3 : Hp_ := h_rm G2 0 1 (some 10)
def G4 : Hp_ := h_nw G3 11 18 10
def G5 : Hp_ := CH_11 G4
def G6 : Hp_ := h_rm G5 0 2 (some 11)
def G7 : Hp_ := h_nw G6 12 10 4
def G8 : Hp_ := CH_12 G7
def G9 : Hp_ := h_rm G8 0 3 (some 12)
def G10 : Hp_ := h_nw G9 13 20 6
def G11 : Hp_ := CH_13 G10
def G12 : Hp_ := h_rm G11 0 4 (some 13)
def G13 : Hp_ := h_nw G12 14 20 6
def G14 : Hp_ := CH_14 G13
def G15 : Hp_ := h_rm G14 0 5 (some 14)
def G16 : Hp_ := h_nw G15 15 4 12
def G17 : Hp_ := h_rm G16 0 6 (some 15)
def G18 : Hp_ := h_nw G17 16 17 12
def G19 : Hp_ := CH_16 G18
def G20 : Hp_ := h_rm G19 0 8 (some 16)
def G21 : Hp_ := h_nw G20 17 14 17
def G22 : Hp_ := CH_17 G21
def G23 : Hp_ := h_rm G22 0 9 (some 17)
def G24 : Hp_ := h_nw G23 18 11 16
def G25 : Hp_ := CH_18 G24
def G26 : Hp_ := h_rm G25 0 10 (some 18)
def G27 : Hp_ := h_nw G26 19 13 11
def G28 : Hp_ := CH_19 G27
def G29 : Hp_ := h_rm G28 0 11 (some 19)
def G30 : Hp_ := h_nw G29 20 16 20
def G31 : Hp_ := CH_20 G30
def G32 : Hp_ := h_rm G31 0 12 (some 20)
def G33 : Hp_ := h_nw G32 21 15 16
def G34 : Hp_ := CH_21 G33
def G35 : Hp_ := h_rm G34 0 13 (some 21)
def G36 : Hp_ := h_nw G35 400 3 0
def G37 : Hp_ := h_rm G36 0 15 (some 400)
theorem k_X11_init_0 (d : Nat) : Cv (m_X11_init (d + 2) 99 30357) [.ref 0] G0 (fun h' => h' = G37) := by
  refine Ct.of (fun _ _ _ => trivial) rfl (Nat.le_of_ble_eq_true rfl) ?_
  show AW (m_X11_init (d + 2) 99 30357) 0 0 0 [(0, .ref 0)] [] G0 (kV _)
  refine aw_aload_n (i := 0) rfl d_X11_init_0 0 rfl ?_
  refine aw_objInit (rest := []) d_X11_init_1 tw_32 tw_33 tw_34 (show 1 ≤ d + 2 by omega) (show 0 + 12 ≤ 100 * (d + 2) by omega) ?_
  refine aw_aload_n (i := 0) rfl d_X11_init_4 0 rfl ?_
  refine aw_new (ci := 9) 10 kc_9 tw_35 tw_36 tw_2 (by decide +kernel) (by decide) xs0 (show 0 + 1 ≤ 99 from by decide +kernel) (show 0 + 2 ≤ 30357 from by decide +kernel) d_X11_init_5 ?_
  show AW (m_X11_init (d + 2) 99 30357) 1 2 8 [(0, .ref 0)] [.ref 10, .ref 0] G1 (kV _)
  refine aw_dup d_X11_init_8 rfl ?_
  refine aw_callI (vs := []) (a := 10) (rest := [.ref 10, .ref 0]) d_X11_init_9 (cI_X9_init (d + 1) 1 256) ⟨rfl, rfl⟩ tw_38 tw_37 rfl ⟨show d + 1 + 1 ≤ d + 2 by omega, show 8 + (2 + 11) + 100 * (d + 1) ≤ 100 * (d + 2) by omega⟩ (by decide) ⟨show 1 + 1 ≤ 99 from by decide +kernel, show 2 + 256 ≤ 30357 from by decide +kernel⟩ xs0 (k_X9_init_10 d G1 (by decide +kernel) (rng_none (by decide +kernel))) (fun v h9 kk => ?_)
  obtain ⟨rfl, rfl⟩ := kk
  show AW (m_X11_init (d + 2) 99 30357) 2 258 12 [(0, .ref 0)] [.ref 10, .ref 0] G2 (kV _)
  refine aw_putrF (k0 := 1) kc_11 (by decide +kernel) (Nat.le_of_ble_eq_true rfl) tw_488 d_X11_init_12 rfl rfl rfl rfl ?_
  show AW (m_X11_init (d + 2) 99 30357) 2 258 15 [(0, .ref 0)] [] G3 (kV _)
  refine aw_aload_n (i := 0) rfl d_X11_init_15 0 rfl ?_
  refine aw_new (ci := 8) 11 kc_8 tw_52 tw_53 tw_3 (by decide +kernel) (by decide) xs0 (show 2 + 1 ≤ 99 from by decide +kernel) (show 258 + 10 ≤ 30357 from by decide +kernel) d_X11_init_16 ?_
  show AW (m_X11_init (d + 2) 99 30357) 3 268 19 [(0, .ref 0)] [.ref 11, .ref 0] G4 (kV _)
  refine aw_dup d_X11_init_19 rfl ?_
  refine aw_callIN (vs := []) (a := 11) (rest := [.ref 11, .ref 0]) d_X11_init_20 (cI_X8_init (d + 1) 3 474) ⟨rfl, rfl⟩ tw_55 (List.mem_of_getElem? (i := 0) rfl) rfl ⟨show d + 1 + 1 ≤ d + 2 by omega, show 8 + (1 + 11) + 100 * (d + 1) ≤ 100 * (d + 2) by omega⟩ (by decide) ⟨show 3 + 3 ≤ 99 from by decide +kernel, show 268 + 474 ≤ 30357 from by decide +kernel⟩ xs0 (k_X8_init_11 d G4 (by decide +kernel) (rng_none (by decide +kernel))) (fun v h9 kk => ?_)
  obtain ⟨rfl, rfl⟩ := kk
  show AW (m_X11_init (d + 2) 99 30357) 6 742 23 [(0, .ref 0)] [.ref 11, .ref 0] G5 (kV _)
  refine aw_putrF (k0 := 2) kc_11 (by decide +kernel) (Nat.le_of_ble_eq_true rfl) tw_489 d_X11_init_23 rfl rfl rfl rfl ?_
  show AW (m_X11_init (d + 2) 99 30357) 6 742 26 [(0, .ref 0)] [] G6 (kV _)
  refine aw_aload_n (i := 0) rfl d_X11_init_26 0 rfl ?_
  refine aw_new (ci := 0) 12 kc_0 tw_97 tw_98 tw_4 (by decide +kernel) (by decide) xs0 (show 6 + 1 ≤ 99 from by decide +kernel) (show 742 + 4 ≤ 30357 from by decide +kernel) d_X11_init_27 ?_
  show AW (m_X11_init (d + 2) 99 30357) 7 746 30 [(0, .ref 0)] [.ref 12, .ref 0] G7 (kV _)
  refine aw_dup d_X11_init_30 rfl ?_
  refine aw_callIN (vs := []) (a := 12) (rest := [.ref 12, .ref 0]) d_X11_init_31 (cI_X0_init (d + 1) 3 1824) ⟨rfl, rfl⟩ tw_100 (List.mem_of_getElem? (i := 1) rfl) rfl ⟨show d + 1 + 1 ≤ d + 2 by omega, show 8 + (1 + 11) + 100 * (d + 1) ≤ 100 * (d + 2) by omega⟩ (by decide) ⟨show 7 + 3 ≤ 99 from by decide +kernel, show 746 + 1824 ≤ 30357 from by decide +kernel⟩ xs0 (k_X0_init_12 d G7 (by decide +kernel) (rng_none (by decide +kernel))) (fun v h9 kk => ?_)
  obtain ⟨rfl, rfl⟩ := kk
  show AW (m_X11_init (d + 2) 99 30357) 10 2570 34 [(0, .ref 0)] [.ref 12, .ref 0] G8 (kV _)
  refine aw_putrF (k0 := 3) kc_11 (by decide +kernel) (Nat.le_of_ble_eq_true rfl) tw_490 d_X11_init_34 rfl rfl rfl rfl ?_
  show AW (m_X11_init (d + 2) 99 30357) 10 2570 37 [(0, .ref 0)] [] G9 (kV _)
  refine aw_aload_n (i := 0) rfl d_X11_init_37 0 rfl ?_
  refine aw_new (ci := 10) 13 kc_10 tw_118 tw_119 tw_5 (by decide +kernel) (by decide) xs0 (show 10 + 1 ≤ 99 from by decide +kernel) (show 2570 + 6 ≤ 30357 from by decide +kernel) d_X11_init_38 ?_
  show AW (m_X11_init (d + 2) 99 30357) 11 2576 41 [(0, .ref 0)] [.ref 13, .ref 0] G10 (kV _)
  refine aw_dup d_X11_init_41 rfl ?_
  refine aw_callIN (vs := []) (a := 13) (rest := [.ref 13, .ref 0]) d_X11_init_42 (cI_X10_init (d + 1) 5 3504) ⟨rfl, rfl⟩ tw_121 (List.mem_of_getElem? (i := 2) rfl) rfl ⟨show d + 1 + 1 ≤ d + 2 by omega, show 8 + (1 + 11) + 100 * (d + 1) ≤ 100 * (d + 2) by omega⟩ (by decide) ⟨show 11 + 5 ≤ 99 from by decide +kernel, show 2576 + 3504 ≤ 30357 from by decide +kernel⟩ xs0 (k_X10_init_13 d G10 (by decide +kernel) (rng_none (by decide +kernel))) (fun v h9 kk => ?_)
  obtain ⟨rfl, rfl⟩ := kk
  show AW (m_X11_init (d + 2) 99 30357) 16 6080 45 [(0, .ref 0)] [.ref 13, .ref 0] G11 (kV _)
  refine aw_putrF (k0 := 4) kc_11 (by decide +kernel) (Nat.le_of_ble_eq_true rfl) tw_491 d_X11_init_45 rfl rfl rfl rfl ?_
  show AW (m_X11_init (d + 2) 99 30357) 16 6080 48 [(0, .ref 0)] [] G12 (kV _)
  refine aw_aload_n (i := 0) rfl d_X11_init_48 0 rfl ?_
  refine aw_new (ci := 10) 14 kc_10 tw_118 tw_119 tw_5 (by decide +kernel) (by decide) xs0 (show 16 + 1 ≤ 99 from by decide +kernel) (show 6080 + 6 ≤ 30357 from by decide +kernel) d_X11_init_49 ?_
  show AW (m_X11_init (d + 2) 99 30357) 17 6086 52 [(0, .ref 0)] [.ref 14, .ref 0] G13 (kV _)
  refine aw_dup d_X11_init_52 rfl ?_
  refine aw_callIN (vs := []) (a := 14) (rest := [.ref 14, .ref 0]) d_X11_init_53 (cI_X10_init (d + 1) 5 3504) ⟨rfl, rfl⟩ tw_121 (List.mem_of_getElem? (i := 2) rfl) rfl ⟨show d + 1 + 1 ≤ d + 2 by omega, show 8 + (1 + 11) + 100 * (d + 1) ≤ 100 * (d + 2) by omega⟩ (by decide) ⟨show 17 + 5 ≤ 99 from by decide +kernel, show 6086 + 3504 ≤ 30357 from by decide +kernel⟩ xs0 (k_X10_init_14 d G13 (by decide +kernel) (rng_none (by decide +kernel))) (fun v h9 kk => ?_)
  obtain ⟨rfl, rfl⟩ := kk
  show AW (m_X11_init (d + 2) 99 30357) 22 9590 56 [(0, .ref 0)] [.ref 14, .ref 0] G14 (kV _)
  refine aw_putrF (k0 := 5) kc_11 (by decide +kernel) (Nat.le_of_ble_eq_true rfl) tw_492 d_X11_init_56 rfl rfl rfl rfl ?_
  show AW (m_X11_init (d + 2) 99 30357) 22 9590 59 [(0, .ref 0)] [] G15 (kV _)
  refine aw_aload_n (i := 0) rfl d_X11_init_59 0 rfl ?_
  refine aw_bipush (v := 12) d_X11_init_60 ib_12 ?_
  refine aw_newq 15 12 tw_144 (by decide +kernel) (by decide) xs0 (by decide) (by decide) (by decide) (show 22 + 1 ≤ 99 from by decide +kernel) (show 9590 + 12 ≤ 30357 from by decide +kernel) d_X11_init_62 ?_
  show AW (m_X11_init (d + 2) 99 30357) 23 9602 65 [(0, .ref 0)] [.ref 15, .ref 0] G16 (kV _)
  refine aw_putrF (k0 := 6) kc_11 (by decide +kernel) (Nat.le_of_ble_eq_true rfl) tw_493 d_X11_init_65 rfl rfl rfl rfl ?_
  show AW (m_X11_init (d + 2) 99 30357) 23 9602 68 [(0, .ref 0)] [] G17 (kV _)
  refine aw_aload_n (i := 0) rfl d_X11_init_68 0 rfl ?_
  refine aw_new (ci := 7) 16 kc_7 tw_146 tw_147 tw_6 (by decide +kernel) (by decide) xs0 (show 23 + 1 ≤ 99 from by decide +kernel) (show 9602 + 12 ≤ 30357 from by decide +kernel) d_X11_init_69 ?_
  show AW (m_X11_init (d + 2) 99 30357) 24 9614 72 [(0, .ref 0)] [.ref 16, .ref 0] G18 (kV _)
  refine aw_dup d_X11_init_72 rfl ?_
  refine aw_callIN (vs := []) (a := 16) (rest := [.ref 16, .ref 0]) d_X11_init_73 (cI_X7_init (d + 1) 10 3400) ⟨rfl, rfl⟩ tw_149 (List.mem_of_getElem? (i := 3) rfl) rfl ⟨show d + 1 + 1 ≤ d + 2 by omega, show 8 + (1 + 11) + 100 * (d + 1) ≤ 100 * (d + 2) by omega⟩ (by decide) ⟨show 24 + 10 ≤ 99 from by decide +kernel, show 9614 + 3400 ≤ 30357 from by decide +kernel⟩ xs0 (k_X7_init_16 d G18 (by decide +kernel) (rng_none (by decide +kernel))) (fun v h9 kk => ?_)
  obtain ⟨rfl, rfl⟩ := kk
  show AW (m_X11_init (d + 2) 99 30357) 34 13014 76 [(0, .ref 0)] [.ref 16, .ref 0] G19 (kV _)
  refine aw_putrF (k0 := 8) kc_11 (by decide +kernel) (Nat.le_of_ble_eq_true rfl) tw_495 d_X11_init_76 rfl rfl rfl rfl ?_
  show AW (m_X11_init (d + 2) 99 30357) 34 13014 79 [(0, .ref 0)] [] G20 (kV _)
  refine aw_aload_n (i := 0) rfl d_X11_init_79 0 rfl ?_
  refine aw_new (ci := 4) 17 kc_4 tw_190 tw_191 tw_7 (by decide +kernel) (by decide) xs0 (show 34 + 1 ≤ 99 from by decide +kernel) (show 13014 + 17 ≤ 30357 from by decide +kernel) d_X11_init_80 ?_
  show AW (m_X11_init (d + 2) 99 30357) 35 13031 83 [(0, .ref 0)] [.ref 17, .ref 0] G21 (kV _)
  refine aw_dup d_X11_init_83 rfl ?_
  refine aw_callIN (vs := []) (a := 17) (rest := [.ref 17, .ref 0]) d_X11_init_84 (cI_X4_init (d + 1) 14 5060) ⟨rfl, rfl⟩ tw_193 (List.mem_of_getElem? (i := 4) rfl) rfl ⟨show d + 1 + 1 ≤ d + 2 by omega, show 8 + (1 + 11) + 100 * (d + 1) ≤ 100 * (d + 2) by omega⟩ (by decide) ⟨show 35 + 14 ≤ 99 from by decide +kernel, show 13031 + 5060 ≤ 30357 from by decide +kernel⟩ xs0 (k_X4_init_17 d G21 (by decide +kernel) (rng_none (by decide +kernel))) (fun v h9 kk => ?_)
  obtain ⟨rfl, rfl⟩ := kk
  show AW (m_X11_init (d + 2) 99 30357) 49 18091 87 [(0, .ref 0)] [.ref 17, .ref 0] G22 (kV _)
  refine aw_putrF (k0 := 9) kc_11 (by decide +kernel) (Nat.le_of_ble_eq_true rfl) tw_496 d_X11_init_87 rfl rfl rfl rfl ?_
  show AW (m_X11_init (d + 2) 99 30357) 49 18091 90 [(0, .ref 0)] [] G23 (kV _)
  refine aw_aload_n (i := 0) rfl d_X11_init_90 0 rfl ?_
  refine aw_new (ci := 1) 18 kc_1 tw_253 tw_254 tw_8 (by decide +kernel) (by decide) xs0 (show 49 + 1 ≤ 99 from by decide +kernel) (show 18091 + 16 ≤ 30357 from by decide +kernel) d_X11_init_91 ?_
  show AW (m_X11_init (d + 2) 99 30357) 50 18107 94 [(0, .ref 0)] [.ref 18, .ref 0] G24 (kV _)
  refine aw_dup d_X11_init_94 rfl ?_
  refine aw_callI (vs := []) (a := 18) (rest := [.ref 18, .ref 0]) d_X11_init_95 (cI_X1_init (d + 1) 14 1110) ⟨rfl, rfl⟩ tw_256 tw_255 rfl ⟨show d + 1 + 1 ≤ d + 2 by omega, show 8 + (1 + 11) + 100 * (d + 1) ≤ 100 * (d + 2) by omega⟩ (by decide) ⟨show 50 + 14 ≤ 99 from by decide +kernel, show 18107 + 1110 ≤ 30357 from by decide +kernel⟩ xs0 (k_X1_init_18 d G24 (by decide +kernel) (rng_none (by decide +kernel))) (fun v h9 kk => ?_)
  obtain ⟨rfl, rfl⟩ := kk
  show AW (m_X11_init (d + 2) 99 30357) 64 19217 98 [(0, .ref 0)] [.ref 18, .ref 0] G25 (kV _)
  refine aw_putrF (k0 := 10) kc_11 (by decide +kernel) (Nat.le_of_ble_eq_true rfl) tw_497 d_X11_init_98 rfl rfl rfl rfl ?_
  show AW (m_X11_init (d + 2) 99 30357) 64 19217 101 [(0, .ref 0)] [] G26 (kV _)
  refine aw_aload_n (i := 0) rfl d_X11_init_101 0 rfl ?_
  refine aw_new (ci := 3) 19 kc_3 tw_315 tw_316 tw_10 (by decide +kernel) (by decide) xs0 (show 64 + 1 ≤ 99 from by decide +kernel) (show 19217 + 11 ≤ 30357 from by decide +kernel) d_X11_init_102 ?_
  show AW (m_X11_init (d + 2) 99 30357) 65 19228 105 [(0, .ref 0)] [.ref 19, .ref 0] G27 (kV _)
  refine aw_dup d_X11_init_105 rfl ?_
  refine aw_callIN (vs := []) (a := 19) (rest := [.ref 19, .ref 0]) d_X11_init_106 (cI_X3_init (d + 1) 7 4704) ⟨rfl, rfl⟩ tw_318 (List.mem_of_getElem? (i := 5) rfl) rfl ⟨show d + 1 + 1 ≤ d + 2 by omega, show 8 + (1 + 11) + 100 * (d + 1) ≤ 100 * (d + 2) by omega⟩ (by decide) ⟨show 65 + 7 ≤ 99 from by decide +kernel, show 19228 + 4704 ≤ 30357 from by decide +kernel⟩ xs0 (k_X3_init_19 d G27 (by decide +kernel) (rng_none (by decide +kernel))) (fun v h9 kk => ?_)
  obtain ⟨rfl, rfl⟩ := kk
  show AW (m_X11_init (d + 2) 99 30357) 72 23932 109 [(0, .ref 0)] [.ref 19, .ref 0] G28 (kV _)
  refine aw_putrF (k0 := 11) kc_11 (by decide +kernel) (Nat.le_of_ble_eq_true rfl) tw_498 d_X11_init_109 rfl rfl rfl rfl ?_
  show AW (m_X11_init (d + 2) 99 30357) 72 23932 112 [(0, .ref 0)] [] G29 (kV _)
  refine aw_aload_n (i := 0) rfl d_X11_init_112 0 rfl ?_
  refine aw_new (ci := 6) 20 kc_6 tw_357 tw_358 tw_11 (by decide +kernel) (by decide) xs0 (show 72 + 1 ≤ 99 from by decide +kernel) (show 23932 + 20 ≤ 30357 from by decide +kernel) d_X11_init_113 ?_
  show AW (m_X11_init (d + 2) 99 30357) 73 23952 116 [(0, .ref 0)] [.ref 20, .ref 0] G30 (kV _)
  refine aw_dup d_X11_init_116 rfl ?_
  refine aw_callIN (vs := []) (a := 20) (rest := [.ref 20, .ref 0]) d_X11_init_117 (cI_X6_init (d + 1) 12 3439) ⟨rfl, rfl⟩ tw_360 (List.mem_of_getElem? (i := 6) rfl) rfl ⟨show d + 1 + 1 ≤ d + 2 by omega, show 8 + (1 + 11) + 100 * (d + 1) ≤ 100 * (d + 2) by omega⟩ (by decide) ⟨show 73 + 12 ≤ 99 from by decide +kernel, show 23952 + 3439 ≤ 30357 from by decide +kernel⟩ xs0 (k_X6_init_20 d G30 (by decide +kernel) (rng_none (by decide +kernel))) (fun v h9 kk => ?_)
  obtain ⟨rfl, rfl⟩ := kk
  show AW (m_X11_init (d + 2) 99 30357) 85 27391 120 [(0, .ref 0)] [.ref 20, .ref 0] G31 (kV _)
  refine aw_putrF (k0 := 12) kc_11 (by decide +kernel) (Nat.le_of_ble_eq_true rfl) tw_499 d_X11_init_120 rfl rfl rfl rfl ?_
  show AW (m_X11_init (d + 2) 99 30357) 85 27391 123 [(0, .ref 0)] [] G32 (kV _)
  refine aw_aload_n (i := 0) rfl d_X11_init_123 0 rfl ?_
  refine aw_new (ci := 5) 21 kc_5 tw_427 tw_428 tw_12 (by decide +kernel) (by decide) xs0 (show 85 + 1 ≤ 99 from by decide +kernel) (show 27391 + 16 ≤ 30357 from by decide +kernel) d_X11_init_124 ?_
  show AW (m_X11_init (d + 2) 99 30357) 86 27407 127 [(0, .ref 0)] [.ref 21, .ref 0] G33 (kV _)
  refine aw_dup d_X11_init_127 rfl ?_
  refine aw_callI (vs := []) (a := 21) (rest := [.ref 21, .ref 0]) d_X11_init_128 (cI_X5_init (d + 1) 12 2950) ⟨rfl, rfl⟩ tw_430 tw_429 rfl ⟨show d + 1 + 1 ≤ d + 2 by omega, show 8 + (1 + 11) + 100 * (d + 1) ≤ 100 * (d + 2) by omega⟩ (by decide) ⟨show 86 + 12 ≤ 99 from by decide +kernel, show 27407 + 2950 ≤ 30357 from by decide +kernel⟩ xs0 (k_X5_init_21 d G33 (by decide +kernel) (rng_none (by decide +kernel))) (fun v h9 kk => ?_)
  obtain ⟨rfl, rfl⟩ := kk
  show AW (m_X11_init (d + 2) 99 30357) 98 30357 131 [(0, .ref 0)] [.ref 21, .ref 0] G34 (kV _)
  refine aw_putrF (k0 := 13) kc_11 (by decide +kernel) (Nat.le_of_ble_eq_true rfl) tw_500 d_X11_init_131 rfl rfl rfl rfl ?_
  show AW (m_X11_init (d + 2) 99 30357) 98 30357 134 [(0, .ref 0)] [] G35 (kV _)
  refine aw_aload_n (i := 0) rfl d_X11_init_134 0 rfl ?_
  refine aw_iconst (v := 0) d_X11_init_135 ic_0 ?_
  refine aw_newa (t := 3) (atype := .long) 400 0 (by decide) rfl tw_426 (by decide +kernel) (by decide) xs0 (by decide) (by decide) (by decide) (show 98 + 1 ≤ 99 from by decide +kernel) (show 30357 + 0 ≤ 30357 from by decide +kernel) d_X11_init_136 ?_
  show AW (m_X11_init (d + 2) 99 30357) 99 30357 138 [(0, .ref 0)] [.ref 400, .ref 0] G36 (kV _)
  refine aw_putr (k0 := 15) kc_11 (by decide +kernel) (Nat.le_of_ble_eq_true rfl) tw_502 d_X11_init_138 rfl rfl ?_
  show AW (m_X11_init (d + 2) 99 30357) 99 30357 141 [(0, .ref 0)] [] G37 (kV _)
  exact aw_vret rfl d_X11_init_141 ⟨show 99 ≤ 99 from Nat.le_refl _, show 30357 ≤ 30357 from Nat.le_refl _⟩ ⟨rfl, rfl⟩
def GM0 : Hp_ := h_nw G37 1 22 131
noncomputable def HF : Hp_ := h_nw (CH_1 GM0) 2 3 1
theorem wHF : Wf HF := by
  have h1 : shL.all (fun q => decide (h_sh HF q.1 = some q.2)) = true := by decide +kernel
  have h2 : rfL.all (fun q => decide (h_r HF q.1 q.2.1 = some q.2.2)) = true := by decide +kernel
  exact ⟨fun q hq => of_decide_eq_true (List.all_eq_true.mp h1 q hq), fun q hq => of_decide_eq_true (List.all_eq_true.mp h2 q hq)⟩
end
