section
noncomputable def CC_0 (h : Hp_) : Hp_ := h_rm (h_nw (h_rm (h_nw (h_rm (h_nw (h_rm (h_nw (h_rm (h_nw (h_rm (h_nw (h_rm (h_nw (h_rm (h_nw (h_rm (h_nw (h_rm (h_nw (h_rm (h_nw (h_rm (h_nw (h_rm (h_nw (h_rm (h_nw (h_rm (h_nw h 200 0 40) 1 2 (some 200)) 201 0 40) 1 3 (some 201)) 202 0 40) 1 4 (some 202)) 203 0 16) 1 5 (some 203)) 204 0 12) 1 8 (some 204)) 205 0 12) 1 9 (some 205)) 206 0 12) 1 10 (some 206)) 207 0 12) 1 11 (some 207)) 208 0 12) 1 12 (some 208)) 209 0 12) 1 13 (some 209)) 210 0 12) 1 14 (some 210)) 211 0 12) 1 15 (some 211)) 212 0 12) 1 16 (some 212)) 213 0 12) 1 17 (some 213)) 214 0 12) 1 18 (some 214)
theorem cf_0 (h : Hp_) (hs : h_sh h 1 = some (22, 131)) (hn : ∀ a, 200 ≤ a → a < 300 → h_sh h a = none) : h_sh (CC_0 h) 1 = some (22, 131) ∧ (∀ a, 215 ≤ a → a < 300 → h_sh (CC_0 h) a = none) := by
  have hs1 := ss_step (k := 200) (t := 0) (n := 40) (c' := 1) (s := 2) (r := some 200) hs (by decide)
  have hn2 := nn_step (k := 200) (t := 0) (n := 40) (c := 1) (s := 2) (r := some 200) hn
  have hs3 := ss_step (k := 201) (t := 0) (n := 40) (c' := 1) (s := 3) (r := some 201) hs1 (by decide)
  have hn4 := nn_step (k := 201) (t := 0) (n := 40) (c := 1) (s := 3) (r := some 201) hn2
  have hs5 := ss_step (k := 202) (t := 0) (n := 40) (c' := 1) (s := 4) (r := some 202) hs3 (by decide)
  have hn6 := nn_step (k := 202) (t := 0) (n := 40) (c := 1) (s := 4) (r := some 202) hn4
  have hs7 := ss_step (k := 203) (t := 0) (n := 16) (c' := 1) (s := 5) (r := some 203) hs5 (by decide)
  have hn8 := nn_step (k := 203) (t := 0) (n := 16) (c := 1) (s := 5) (r := some 203) hn6
  have hs9 := ss_step (k := 204) (t := 0) (n := 12) (c' := 1) (s := 8) (r := some 204) hs7 (by decide)
  have hn10 := nn_step (k := 204) (t := 0) (n := 12) (c := 1) (s := 8) (r := some 204) hn8
  have hs11 := ss_step (k := 205) (t := 0) (n := 12) (c' := 1) (s := 9) (r := some 205) hs9 (by decide)
  have hn12 := nn_step (k := 205) (t := 0) (n := 12) (c := 1) (s := 9) (r := some 205) hn10
  have hs13 := ss_step (k := 206) (t := 0) (n := 12) (c' := 1) (s := 10) (r := some 206) hs11 (by decide)
  have hn14 := nn_step (k := 206) (t := 0) (n := 12) (c := 1) (s := 10) (r := some 206) hn12
  have hs15 := ss_step (k := 207) (t := 0) (n := 12) (c' := 1) (s := 11) (r := some 207) hs13 (by decide)
  have hn16 := nn_step (k := 207) (t := 0) (n := 12) (c := 1) (s := 11) (r := some 207) hn14
  have hs17 := ss_step (k := 208) (t := 0) (n := 12) (c' := 1) (s := 12) (r := some 208) hs15 (by decide)
  have hn18 := nn_step (k := 208) (t := 0) (n := 12) (c := 1) (s := 12) (r := some 208) hn16
  have hs19 := ss_step (k := 209) (t := 0) (n := 12) (c' := 1) (s := 13) (r := some 209) hs17 (by decide)
  have hn20 := nn_step (k := 209) (t := 0) (n := 12) (c := 1) (s := 13) (r := some 209) hn18
  have hs21 := ss_step (k := 210) (t := 0) (n := 12) (c' := 1) (s := 14) (r := some 210) hs19 (by decide)
  have hn22 := nn_step (k := 210) (t := 0) (n := 12) (c := 1) (s := 14) (r := some 210) hn20
  have hs23 := ss_step (k := 211) (t := 0) (n := 12) (c' := 1) (s := 15) (r := some 211) hs21 (by decide)
  have hn24 := nn_step (k := 211) (t := 0) (n := 12) (c := 1) (s := 15) (r := some 211) hn22
  have hs25 := ss_step (k := 212) (t := 0) (n := 12) (c' := 1) (s := 16) (r := some 212) hs23 (by decide)
  have hn26 := nn_step (k := 212) (t := 0) (n := 12) (c := 1) (s := 16) (r := some 212) hn24
  have hs27 := ss_step (k := 213) (t := 0) (n := 12) (c' := 1) (s := 17) (r := some 213) hs25 (by decide)
  have hn28 := nn_step (k := 213) (t := 0) (n := 12) (c := 1) (s := 17) (r := some 213) hn26
  have hs29 := ss_step (k := 214) (t := 0) (n := 12) (c' := 1) (s := 18) (r := some 214) hs27 (by decide)
  have hn30 := nn_step (k := 214) (t := 0) (n := 12) (c := 1) (s := 18) (r := some 214) hn28
  exact ⟨hs29, hn30⟩
theorem ck_0 (d : Nat) (h : Hp_) (K : Option Value → Hp_ → Prop) (hs : h_sh h 1 = some (22, 131)) (hn : ∀ a, 200 ≤ a → a < 300 → h_sh h a = none) (k : AW (m_X12_init (d + 1) 100 288204) 15 268 124 [(0, .ref 1)] [] (CC_0 h) K) : AW (m_X12_init (d + 1) 100 288204) 0 0 4 [(0, .ref 1)] [] h K := by
  refine aw_aload_n (i := 0) rfl d_X12_init_4 0 rfl ?_
  refine aw_bipush (v := 40) d_X12_init_5 ib_40 ?_
  refine aw_newa (t := 0) (atype := .int) 200 40 (by decide) rfl tw_51 (hn 200 (by decide) (by decide)) (by decide) xs0 (by decide +kernel) (by decide +kernel) (by decide +kernel) (show 0 + 1 ≤ 100 from by decide +kernel) (show 0 + 40 ≤ 288204 from by decide +kernel) d_X12_init_7 ?_
  refine aw_putrF (k0 := 2) kc_12 (ss_n hs (by decide)) (Nat.le_of_ble_eq_true rfl) tw_1744 d_X12_init_9 rfl rfl rfl rfl ?_
  have hs1 := ss_step (k := 200) (t := 0) (n := 40) (c' := 1) (s := 2) (r := some 200) hs (by decide)
  have hn2 := nn_step (k := 200) (t := 0) (n := 40) (c := 1) (s := 2) (r := some 200) hn
  refine aw_aload_n (i := 0) rfl d_X12_init_12 0 rfl ?_
  refine aw_bipush (v := 40) d_X12_init_13 ib_40 ?_
  refine aw_newa (t := 0) (atype := .int) 201 40 (by decide) rfl tw_51 (hn2 201 (by decide) (by decide)) (by decide) xs0 (by decide +kernel) (by decide +kernel) (by decide +kernel) (show 1 + 1 ≤ 100 from by decide +kernel) (show 40 + 40 ≤ 288204 from by decide +kernel) d_X12_init_15 ?_
  refine aw_putrF (k0 := 3) kc_12 (ss_n hs1 (by decide)) (Nat.le_of_ble_eq_true rfl) tw_1745 d_X12_init_17 rfl rfl rfl rfl ?_
  have hs3 := ss_step (k := 201) (t := 0) (n := 40) (c' := 1) (s := 3) (r := some 201) hs1 (by decide)
  have hn4 := nn_step (k := 201) (t := 0) (n := 40) (c := 1) (s := 3) (r := some 201) hn2
  refine aw_aload_n (i := 0) rfl d_X12_init_20 0 rfl ?_
  refine aw_bipush (v := 40) d_X12_init_21 ib_40 ?_
  refine aw_newa (t := 0) (atype := .int) 202 40 (by decide) rfl tw_51 (hn4 202 (by decide) (by decide)) (by decide) xs0 (by decide +kernel) (by decide +kernel) (by decide +kernel) (show 2 + 1 ≤ 100 from by decide +kernel) (show 80 + 40 ≤ 288204 from by decide +kernel) d_X12_init_23 ?_
  refine aw_putrF (k0 := 4) kc_12 (ss_n hs3 (by decide)) (Nat.le_of_ble_eq_true rfl) tw_1746 d_X12_init_25 rfl rfl rfl rfl ?_
  have hs5 := ss_step (k := 202) (t := 0) (n := 40) (c' := 1) (s := 4) (r := some 202) hs3 (by decide)
  have hn6 := nn_step (k := 202) (t := 0) (n := 40) (c := 1) (s := 4) (r := some 202) hn4
  refine aw_aload_n (i := 0) rfl d_X12_init_28 0 rfl ?_
  refine aw_bipush (v := 16) d_X12_init_29 ib_16 ?_
  refine aw_newa (t := 0) (atype := .int) 203 16 (by decide) rfl tw_51 (hn6 203 (by decide) (by decide)) (by decide) xs0 (by decide +kernel) (by decide +kernel) (by decide +kernel) (show 3 + 1 ≤ 100 from by decide +kernel) (show 120 + 16 ≤ 288204 from by decide +kernel) d_X12_init_31 ?_
  refine aw_putrF (k0 := 5) kc_12 (ss_n hs5 (by decide)) (Nat.le_of_ble_eq_true rfl) tw_1747 d_X12_init_33 rfl rfl rfl rfl ?_
  have hs7 := ss_step (k := 203) (t := 0) (n := 16) (c' := 1) (s := 5) (r := some 203) hs5 (by decide)
  have hn8 := nn_step (k := 203) (t := 0) (n := 16) (c := 1) (s := 5) (r := some 203) hn6
  refine aw_aload_n (i := 0) rfl d_X12_init_36 0 rfl ?_
  refine aw_bipush (v := 12) d_X12_init_37 ib_12 ?_
  refine aw_newa (t := 0) (atype := .int) 204 12 (by decide) rfl tw_51 (hn8 204 (by decide) (by decide)) (by decide) xs0 (by decide +kernel) (by decide +kernel) (by decide +kernel) (show 4 + 1 ≤ 100 from by decide +kernel) (show 136 + 12 ≤ 288204 from by decide +kernel) d_X12_init_39 ?_
  refine aw_putrF (k0 := 8) kc_12 (ss_n hs7 (by decide)) (Nat.le_of_ble_eq_true rfl) tw_1750 d_X12_init_41 rfl rfl rfl rfl ?_
  have hs9 := ss_step (k := 204) (t := 0) (n := 12) (c' := 1) (s := 8) (r := some 204) hs7 (by decide)
  have hn10 := nn_step (k := 204) (t := 0) (n := 12) (c := 1) (s := 8) (r := some 204) hn8
  refine aw_aload_n (i := 0) rfl d_X12_init_44 0 rfl ?_
  refine aw_bipush (v := 12) d_X12_init_45 ib_12 ?_
  refine aw_newa (t := 0) (atype := .int) 205 12 (by decide) rfl tw_51 (hn10 205 (by decide) (by decide)) (by decide) xs0 (by decide +kernel) (by decide +kernel) (by decide +kernel) (show 5 + 1 ≤ 100 from by decide +kernel) (show 148 + 12 ≤ 288204 from by decide +kernel) d_X12_init_47 ?_
  refine aw_putrF (k0 := 9) kc_12 (ss_n hs9 (by decide)) (Nat.le_of_ble_eq_true rfl) tw_1751 d_X12_init_49 rfl rfl rfl rfl ?_
  have hs11 := ss_step (k := 205) (t := 0) (n := 12) (c' := 1) (s := 9) (r := some 205) hs9 (by decide)
  have hn12 := nn_step (k := 205) (t := 0) (n := 12) (c := 1) (s := 9) (r := some 205) hn10
  refine aw_aload_n (i := 0) rfl d_X12_init_52 0 rfl ?_
  refine aw_bipush (v := 12) d_X12_init_53 ib_12 ?_
  refine aw_newa (t := 0) (atype := .int) 206 12 (by decide) rfl tw_51 (hn12 206 (by decide) (by decide)) (by decide) xs0 (by decide +kernel) (by decide +kernel) (by decide +kernel) (show 6 + 1 ≤ 100 from by decide +kernel) (show 160 + 12 ≤ 288204 from by decide +kernel) d_X12_init_55 ?_
  refine aw_putrF (k0 := 10) kc_12 (ss_n hs11 (by decide)) (Nat.le_of_ble_eq_true rfl) tw_1752 d_X12_init_57 rfl rfl rfl rfl ?_
  have hs13 := ss_step (k := 206) (t := 0) (n := 12) (c' := 1) (s := 10) (r := some 206) hs11 (by decide)
  have hn14 := nn_step (k := 206) (t := 0) (n := 12) (c := 1) (s := 10) (r := some 206) hn12
  refine aw_aload_n (i := 0) rfl d_X12_init_60 0 rfl ?_
  refine aw_bipush (v := 12) d_X12_init_61 ib_12 ?_
  refine aw_newa (t := 0) (atype := .int) 207 12 (by decide) rfl tw_51 (hn14 207 (by decide) (by decide)) (by decide) xs0 (by decide +kernel) (by decide +kernel) (by decide +kernel) (show 7 + 1 ≤ 100 from by decide +kernel) (show 172 + 12 ≤ 288204 from by decide +kernel) d_X12_init_63 ?_
  refine aw_putrF (k0 := 11) kc_12 (ss_n hs13 (by decide)) (Nat.le_of_ble_eq_true rfl) tw_1753 d_X12_init_65 rfl rfl rfl rfl ?_
  have hs15 := ss_step (k := 207) (t := 0) (n := 12) (c' := 1) (s := 11) (r := some 207) hs13 (by decide)
  have hn16 := nn_step (k := 207) (t := 0) (n := 12) (c := 1) (s := 11) (r := some 207) hn14
  refine aw_aload_n (i := 0) rfl d_X12_init_68 0 rfl ?_
  refine aw_bipush (v := 12) d_X12_init_69 ib_12 ?_
  refine aw_newa (t := 0) (atype := .int) 208 12 (by decide) rfl tw_51 (hn16 208 (by decide) (by decide)) (by decide) xs0 (by decide +kernel) (by decide +kernel) (by decide +kernel) (show 8 + 1 ≤ 100 from by decide +kernel) (show 184 + 12 ≤ 288204 from by decide +kernel) d_X12_init_71 ?_
  refine aw_putrF (k0 := 12) kc_12 (ss_n hs15 (by decide)) (Nat.le_of_ble_eq_true rfl) tw_1754 d_X12_init_73 rfl rfl rfl rfl ?_
  have hs17 := ss_step (k := 208) (t := 0) (n := 12) (c' := 1) (s := 12) (r := some 208) hs15 (by decide)
  have hn18 := nn_step (k := 208) (t := 0) (n := 12) (c := 1) (s := 12) (r := some 208) hn16
  refine aw_aload_n (i := 0) rfl d_X12_init_76 0 rfl ?_
  refine aw_bipush (v := 12) d_X12_init_77 ib_12 ?_
  refine aw_newa (t := 0) (atype := .int) 209 12 (by decide) rfl tw_51 (hn18 209 (by decide) (by decide)) (by decide) xs0 (by decide +kernel) (by decide +kernel) (by decide +kernel) (show 9 + 1 ≤ 100 from by decide +kernel) (show 196 + 12 ≤ 288204 from by decide +kernel) d_X12_init_79 ?_
  refine aw_putrF (k0 := 13) kc_12 (ss_n hs17 (by decide)) (Nat.le_of_ble_eq_true rfl) tw_1755 d_X12_init_81 rfl rfl rfl rfl ?_
  have hs19 := ss_step (k := 209) (t := 0) (n := 12) (c' := 1) (s := 13) (r := some 209) hs17 (by decide)
  have hn20 := nn_step (k := 209) (t := 0) (n := 12) (c := 1) (s := 13) (r := some 209) hn18
  refine aw_aload_n (i := 0) rfl d_X12_init_84 0 rfl ?_
  refine aw_bipush (v := 12) d_X12_init_85 ib_12 ?_
  refine aw_newa (t := 0) (atype := .int) 210 12 (by decide) rfl tw_51 (hn20 210 (by decide) (by decide)) (by decide) xs0 (by decide +kernel) (by decide +kernel) (by decide +kernel) (show 10 + 1 ≤ 100 from by decide +kernel) (show 208 + 12 ≤ 288204 from by decide +kernel) d_X12_init_87 ?_
  refine aw_putrF (k0 := 14) kc_12 (ss_n hs19 (by decide)) (Nat.le_of_ble_eq_true rfl) tw_1756 d_X12_init_89 rfl rfl rfl rfl ?_
  have hs21 := ss_step (k := 210) (t := 0) (n := 12) (c' := 1) (s := 14) (r := some 210) hs19 (by decide)
  have hn22 := nn_step (k := 210) (t := 0) (n := 12) (c := 1) (s := 14) (r := some 210) hn20
  refine aw_aload_n (i := 0) rfl d_X12_init_92 0 rfl ?_
  refine aw_bipush (v := 12) d_X12_init_93 ib_12 ?_
  refine aw_newa (t := 0) (atype := .int) 211 12 (by decide) rfl tw_51 (hn22 211 (by decide) (by decide)) (by decide) xs0 (by decide +kernel) (by decide +kernel) (by decide +kernel) (show 11 + 1 ≤ 100 from by decide +kernel) (show 220 + 12 ≤ 288204 from by decide +kernel) d_X12_init_95 ?_
  refine aw_putrF (k0 := 15) kc_12 (ss_n hs21 (by decide)) (Nat.le_of_ble_eq_true rfl) tw_1757 d_X12_init_97 rfl rfl rfl rfl ?_
  have hs23 := ss_step (k := 211) (t := 0) (n := 12) (c' := 1) (s := 15) (r := some 211) hs21 (by decide)
  have hn24 := nn_step (k := 211) (t := 0) (n := 12) (c := 1) (s := 15) (r := some 211) hn22
  refine aw_aload_n (i := 0) rfl d_X12_init_100 0 rfl ?_
  refine aw_bipush (v := 12) d_X12_init_101 ib_12 ?_
  refine aw_newa (t := 0) (atype := .int) 212 12 (by decide) rfl tw_51 (hn24 212 (by decide) (by decide)) (by decide) xs0 (by decide +kernel) (by decide +kernel) (by decide +kernel) (show 12 + 1 ≤ 100 from by decide +kernel) (show 232 + 12 ≤ 288204 from by decide +kernel) d_X12_init_103 ?_
  refine aw_putrF (k0 := 16) kc_12 (ss_n hs23 (by decide)) (Nat.le_of_ble_eq_true rfl) tw_1758 d_X12_init_105 rfl rfl rfl rfl ?_
  have hs25 := ss_step (k := 212) (t := 0) (n := 12) (c' := 1) (s := 16) (r := some 212) hs23 (by decide)
  have hn26 := nn_step (k := 212) (t := 0) (n := 12) (c := 1) (s := 16) (r := some 212) hn24
  refine aw_aload_n (i := 0) rfl d_X12_init_108 0 rfl ?_
  refine aw_bipush (v := 12) d_X12_init_109 ib_12 ?_
  refine aw_newa (t := 0) (atype := .int) 213 12 (by decide) rfl tw_51 (hn26 213 (by decide) (by decide)) (by decide) xs0 (by decide +kernel) (by decide +kernel) (by decide +kernel) (show 13 + 1 ≤ 100 from by decide +kernel) (show 244 + 12 ≤ 288204 from by decide +kernel) d_X12_init_111 ?_
  refine aw_putrF (k0 := 17) kc_12 (ss_n hs25 (by decide)) (Nat.le_of_ble_eq_true rfl) tw_1759 d_X12_init_113 rfl rfl rfl rfl ?_
  have hs27 := ss_step (k := 213) (t := 0) (n := 12) (c' := 1) (s := 17) (r := some 213) hs25 (by decide)
  have hn28 := nn_step (k := 213) (t := 0) (n := 12) (c := 1) (s := 17) (r := some 213) hn26
  refine aw_aload_n (i := 0) rfl d_X12_init_116 0 rfl ?_
  refine aw_bipush (v := 12) d_X12_init_117 ib_12 ?_
  refine aw_newa (t := 0) (atype := .int) 214 12 (by decide) rfl tw_51 (hn28 214 (by decide) (by decide)) (by decide) xs0 (by decide +kernel) (by decide +kernel) (by decide +kernel) (show 14 + 1 ≤ 100 from by decide +kernel) (show 256 + 12 ≤ 288204 from by decide +kernel) d_X12_init_119 ?_
  refine aw_putrF (k0 := 18) kc_12 (ss_n hs27 (by decide)) (Nat.le_of_ble_eq_true rfl) tw_1760 d_X12_init_121 rfl rfl rfl rfl ?_
  have hs29 := ss_step (k := 214) (t := 0) (n := 12) (c' := 1) (s := 18) (r := some 214) hs27 (by decide)
  have hn30 := nn_step (k := 214) (t := 0) (n := 12) (c := 1) (s := 18) (r := some 214) hn28
  exact k
noncomputable def CC_1 (h : Hp_) : Hp_ := h_rm (h_nw (h_rm (h_nw (h_rm (h_nw (h_rm (h_nw (h_rm (h_nw (h_rm (h_nw (h_rm (h_nw (h_rm (h_nw (h_rm (h_nw (h_rm (h_nw (h_rm (h_nw (h_rm (h_nw (h_rm (h_nw (h_rm (h_nw (h_rm (h_nw h 215 0 12) 1 19 (some 215)) 216 0 12) 1 20 (some 216)) 217 0 12) 1 21 (some 217)) 218 0 12) 1 22 (some 218)) 219 0 12) 1 23 (some 219)) 220 2 240012) 1 24 (some 220)) 221 0 40) 1 25 (some 221)) 222 0 40) 1 26 (some 222)) 223 0 40) 1 27 (some 223)) 224 0 40) 1 28 (some 224)) 225 0 160) 1 30 (some 225)) 226 0 560) 1 31 (some 226)) 227 0 12) 1 38 (some 227)) 228 0 1800) 1 39 (some 228)) 229 0 1800) 1 40 (some 229)
theorem cf_1 (h : Hp_) (hs : h_sh h 1 = some (22, 131)) (hn : ∀ a, 215 ≤ a → a < 300 → h_sh h a = none) : h_sh (CC_1 h) 1 = some (22, 131) ∧ (∀ a, 230 ≤ a → a < 300 → h_sh (CC_1 h) a = none) := by
  have hs1 := ss_step (k := 215) (t := 0) (n := 12) (c' := 1) (s := 19) (r := some 215) hs (by decide)
  have hn2 := nn_step (k := 215) (t := 0) (n := 12) (c := 1) (s := 19) (r := some 215) hn
  have hs3 := ss_step (k := 216) (t := 0) (n := 12) (c' := 1) (s := 20) (r := some 216) hs1 (by decide)
  have hn4 := nn_step (k := 216) (t := 0) (n := 12) (c := 1) (s := 20) (r := some 216) hn2
  have hs5 := ss_step (k := 217) (t := 0) (n := 12) (c' := 1) (s := 21) (r := some 217) hs3 (by decide)
  have hn6 := nn_step (k := 217) (t := 0) (n := 12) (c := 1) (s := 21) (r := some 217) hn4
  have hs7 := ss_step (k := 218) (t := 0) (n := 12) (c' := 1) (s := 22) (r := some 218) hs5 (by decide)
  have hn8 := nn_step (k := 218) (t := 0) (n := 12) (c := 1) (s := 22) (r := some 218) hn6
  have hs9 := ss_step (k := 219) (t := 0) (n := 12) (c' := 1) (s := 23) (r := some 219) hs7 (by decide)
  have hn10 := nn_step (k := 219) (t := 0) (n := 12) (c := 1) (s := 23) (r := some 219) hn8
  have hs11 := ss_step (k := 220) (t := 2) (n := 240012) (c' := 1) (s := 24) (r := some 220) hs9 (by decide)
  have hn12 := nn_step (k := 220) (t := 2) (n := 240012) (c := 1) (s := 24) (r := some 220) hn10
  have hs13 := ss_step (k := 221) (t := 0) (n := 40) (c' := 1) (s := 25) (r := some 221) hs11 (by decide)
  have hn14 := nn_step (k := 221) (t := 0) (n := 40) (c := 1) (s := 25) (r := some 221) hn12
  have hs15 := ss_step (k := 222) (t := 0) (n := 40) (c' := 1) (s := 26) (r := some 222) hs13 (by decide)
  have hn16 := nn_step (k := 222) (t := 0) (n := 40) (c := 1) (s := 26) (r := some 222) hn14
  have hs17 := ss_step (k := 223) (t := 0) (n := 40) (c' := 1) (s := 27) (r := some 223) hs15 (by decide)
  have hn18 := nn_step (k := 223) (t := 0) (n := 40) (c := 1) (s := 27) (r := some 223) hn16
  have hs19 := ss_step (k := 224) (t := 0) (n := 40) (c' := 1) (s := 28) (r := some 224) hs17 (by decide)
  have hn20 := nn_step (k := 224) (t := 0) (n := 40) (c := 1) (s := 28) (r := some 224) hn18
  have hs21 := ss_step (k := 225) (t := 0) (n := 160) (c' := 1) (s := 30) (r := some 225) hs19 (by decide)
  have hn22 := nn_step (k := 225) (t := 0) (n := 160) (c := 1) (s := 30) (r := some 225) hn20
  have hs23 := ss_step (k := 226) (t := 0) (n := 560) (c' := 1) (s := 31) (r := some 226) hs21 (by decide)
  have hn24 := nn_step (k := 226) (t := 0) (n := 560) (c := 1) (s := 31) (r := some 226) hn22
  have hs25 := ss_step (k := 227) (t := 0) (n := 12) (c' := 1) (s := 38) (r := some 227) hs23 (by decide)
  have hn26 := nn_step (k := 227) (t := 0) (n := 12) (c := 1) (s := 38) (r := some 227) hn24
  have hs27 := ss_step (k := 228) (t := 0) (n := 1800) (c' := 1) (s := 39) (r := some 228) hs25 (by decide)
  have hn28 := nn_step (k := 228) (t := 0) (n := 1800) (c := 1) (s := 39) (r := some 228) hn26
  have hs29 := ss_step (k := 229) (t := 0) (n := 1800) (c' := 1) (s := 40) (r := some 229) hs27 (by decide)
  have hn30 := nn_step (k := 229) (t := 0) (n := 1800) (c := 1) (s := 40) (r := some 229) hn28
  exact ⟨hs29, hn30⟩
theorem ck_1 (d : Nat) (h : Hp_) (K : Option Value → Hp_ → Prop) (hs : h_sh h 1 = some (22, 131)) (hn : ∀ a, 215 ≤ a → a < 300 → h_sh h a = none) (k : AW (m_X12_init (d + 1) 100 288204) 30 244832 248 [(0, .ref 1)] [] (CC_1 h) K) : AW (m_X12_init (d + 1) 100 288204) 15 268 124 [(0, .ref 1)] [] h K := by
  refine aw_aload_n (i := 0) rfl d_X12_init_124 0 rfl ?_
  refine aw_bipush (v := 12) d_X12_init_125 ib_12 ?_
  refine aw_newa (t := 0) (atype := .int) 215 12 (by decide) rfl tw_51 (hn 215 (by decide) (by decide)) (by decide) xs0 (by decide +kernel) (by decide +kernel) (by decide +kernel) (show 15 + 1 ≤ 100 from by decide +kernel) (show 268 + 12 ≤ 288204 from by decide +kernel) d_X12_init_127 ?_
  refine aw_putrF (k0 := 19) kc_12 (ss_n hs (by decide)) (Nat.le_of_ble_eq_true rfl) tw_1761 d_X12_init_129 rfl rfl rfl rfl ?_
  have hs1 := ss_step (k := 215) (t := 0) (n := 12) (c' := 1) (s := 19) (r := some 215) hs (by decide)
  have hn2 := nn_step (k := 215) (t := 0) (n := 12) (c := 1) (s := 19) (r := some 215) hn
  refine aw_aload_n (i := 0) rfl d_X12_init_132 0 rfl ?_
  refine aw_bipush (v := 12) d_X12_init_133 ib_12 ?_
  refine aw_newa (t := 0) (atype := .int) 216 12 (by decide) rfl tw_51 (hn2 216 (by decide) (by decide)) (by decide) xs0 (by decide +kernel) (by decide +kernel) (by decide +kernel) (show 16 + 1 ≤ 100 from by decide +kernel) (show 280 + 12 ≤ 288204 from by decide +kernel) d_X12_init_135 ?_
  refine aw_putrF (k0 := 20) kc_12 (ss_n hs1 (by decide)) (Nat.le_of_ble_eq_true rfl) tw_1762 d_X12_init_137 rfl rfl rfl rfl ?_
  have hs3 := ss_step (k := 216) (t := 0) (n := 12) (c' := 1) (s := 20) (r := some 216) hs1 (by decide)
  have hn4 := nn_step (k := 216) (t := 0) (n := 12) (c := 1) (s := 20) (r := some 216) hn2
  refine aw_aload_n (i := 0) rfl d_X12_init_140 0 rfl ?_
  refine aw_bipush (v := 12) d_X12_init_141 ib_12 ?_
  refine aw_newa (t := 0) (atype := .int) 217 12 (by decide) rfl tw_51 (hn4 217 (by decide) (by decide)) (by decide) xs0 (by decide +kernel) (by decide +kernel) (by decide +kernel) (show 17 + 1 ≤ 100 from by decide +kernel) (show 292 + 12 ≤ 288204 from by decide +kernel) d_X12_init_143 ?_
  refine aw_putrF (k0 := 21) kc_12 (ss_n hs3 (by decide)) (Nat.le_of_ble_eq_true rfl) tw_1763 d_X12_init_145 rfl rfl rfl rfl ?_
  have hs5 := ss_step (k := 217) (t := 0) (n := 12) (c' := 1) (s := 21) (r := some 217) hs3 (by decide)
  have hn6 := nn_step (k := 217) (t := 0) (n := 12) (c := 1) (s := 21) (r := some 217) hn4
  refine aw_aload_n (i := 0) rfl d_X12_init_148 0 rfl ?_
  refine aw_bipush (v := 12) d_X12_init_149 ib_12 ?_
  refine aw_newa (t := 0) (atype := .int) 218 12 (by decide) rfl tw_51 (hn6 218 (by decide) (by decide)) (by decide) xs0 (by decide +kernel) (by decide +kernel) (by decide +kernel) (show 18 + 1 ≤ 100 from by decide +kernel) (show 304 + 12 ≤ 288204 from by decide +kernel) d_X12_init_151 ?_
  refine aw_putrF (k0 := 22) kc_12 (ss_n hs5 (by decide)) (Nat.le_of_ble_eq_true rfl) tw_1764 d_X12_init_153 rfl rfl rfl rfl ?_
  have hs7 := ss_step (k := 218) (t := 0) (n := 12) (c' := 1) (s := 22) (r := some 218) hs5 (by decide)
  have hn8 := nn_step (k := 218) (t := 0) (n := 12) (c := 1) (s := 22) (r := some 218) hn6
  refine aw_aload_n (i := 0) rfl d_X12_init_156 0 rfl ?_
  refine aw_bipush (v := 12) d_X12_init_157 ib_12 ?_
  refine aw_newa (t := 0) (atype := .int) 219 12 (by decide) rfl tw_51 (hn8 219 (by decide) (by decide)) (by decide) xs0 (by decide +kernel) (by decide +kernel) (by decide +kernel) (show 19 + 1 ≤ 100 from by decide +kernel) (show 316 + 12 ≤ 288204 from by decide +kernel) d_X12_init_159 ?_
  refine aw_putrF (k0 := 23) kc_12 (ss_n hs7 (by decide)) (Nat.le_of_ble_eq_true rfl) tw_1765 d_X12_init_161 rfl rfl rfl rfl ?_
  have hs9 := ss_step (k := 219) (t := 0) (n := 12) (c' := 1) (s := 23) (r := some 219) hs7 (by decide)
  have hn10 := nn_step (k := 219) (t := 0) (n := 12) (c := 1) (s := 23) (r := some 219) hn8
  refine aw_aload_n (i := 0) rfl d_X12_init_164 0 rfl ?_
  refine aw_ldc (v := 240012) d_X12_init_165 tw_1741 ?_
  refine aw_newa (t := 2) (atype := .byte) 220 240012 (by decide) rfl tw_96 (hn10 220 (by decide) (by decide)) (by decide) xs0 (by decide +kernel) (by decide +kernel) (by decide +kernel) (show 20 + 1 ≤ 100 from by decide +kernel) (show 328 + 240012 ≤ 288204 from by decide +kernel) d_X12_init_167 ?_
  refine aw_putrF (k0 := 24) kc_12 (ss_n hs9 (by decide)) (Nat.le_of_ble_eq_true rfl) tw_1766 d_X12_init_169 rfl rfl rfl rfl ?_
  have hs11 := ss_step (k := 220) (t := 2) (n := 240012) (c' := 1) (s := 24) (r := some 220) hs9 (by decide)
  have hn12 := nn_step (k := 220) (t := 2) (n := 240012) (c := 1) (s := 24) (r := some 220) hn10
  refine aw_aload_n (i := 0) rfl d_X12_init_172 0 rfl ?_
  refine aw_bipush (v := 40) d_X12_init_173 ib_40 ?_
  refine aw_newa (t := 0) (atype := .int) 221 40 (by decide) rfl tw_51 (hn12 221 (by decide) (by decide)) (by decide) xs0 (by decide +kernel) (by decide +kernel) (by decide +kernel) (show 21 + 1 ≤ 100 from by decide +kernel) (show 240340 + 40 ≤ 288204 from by decide +kernel) d_X12_init_175 ?_
  refine aw_putrF (k0 := 25) kc_12 (ss_n hs11 (by decide)) (Nat.le_of_ble_eq_true rfl) tw_1767 d_X12_init_177 rfl rfl rfl rfl ?_
  have hs13 := ss_step (k := 221) (t := 0) (n := 40) (c' := 1) (s := 25) (r := some 221) hs11 (by decide)
  have hn14 := nn_step (k := 221) (t := 0) (n := 40) (c := 1) (s := 25) (r := some 221) hn12
  refine aw_aload_n (i := 0) rfl d_X12_init_180 0 rfl ?_
  refine aw_bipush (v := 40) d_X12_init_181 ib_40 ?_
  refine aw_newa (t := 0) (atype := .int) 222 40 (by decide) rfl tw_51 (hn14 222 (by decide) (by decide)) (by decide) xs0 (by decide +kernel) (by decide +kernel) (by decide +kernel) (show 22 + 1 ≤ 100 from by decide +kernel) (show 240380 + 40 ≤ 288204 from by decide +kernel) d_X12_init_183 ?_
  refine aw_putrF (k0 := 26) kc_12 (ss_n hs13 (by decide)) (Nat.le_of_ble_eq_true rfl) tw_1768 d_X12_init_185 rfl rfl rfl rfl ?_
  have hs15 := ss_step (k := 222) (t := 0) (n := 40) (c' := 1) (s := 26) (r := some 222) hs13 (by decide)
  have hn16 := nn_step (k := 222) (t := 0) (n := 40) (c := 1) (s := 26) (r := some 222) hn14
  refine aw_aload_n (i := 0) rfl d_X12_init_188 0 rfl ?_
  refine aw_bipush (v := 40) d_X12_init_189 ib_40 ?_
  refine aw_newa (t := 0) (atype := .int) 223 40 (by decide) rfl tw_51 (hn16 223 (by decide) (by decide)) (by decide) xs0 (by decide +kernel) (by decide +kernel) (by decide +kernel) (show 23 + 1 ≤ 100 from by decide +kernel) (show 240420 + 40 ≤ 288204 from by decide +kernel) d_X12_init_191 ?_
  refine aw_putrF (k0 := 27) kc_12 (ss_n hs15 (by decide)) (Nat.le_of_ble_eq_true rfl) tw_1769 d_X12_init_193 rfl rfl rfl rfl ?_
  have hs17 := ss_step (k := 223) (t := 0) (n := 40) (c' := 1) (s := 27) (r := some 223) hs15 (by decide)
  have hn18 := nn_step (k := 223) (t := 0) (n := 40) (c := 1) (s := 27) (r := some 223) hn16
  refine aw_aload_n (i := 0) rfl d_X12_init_196 0 rfl ?_
  refine aw_bipush (v := 40) d_X12_init_197 ib_40 ?_
  refine aw_newa (t := 0) (atype := .int) 224 40 (by decide) rfl tw_51 (hn18 224 (by decide) (by decide)) (by decide) xs0 (by decide +kernel) (by decide +kernel) (by decide +kernel) (show 24 + 1 ≤ 100 from by decide +kernel) (show 240460 + 40 ≤ 288204 from by decide +kernel) d_X12_init_199 ?_
  refine aw_putrF (k0 := 28) kc_12 (ss_n hs17 (by decide)) (Nat.le_of_ble_eq_true rfl) tw_1770 d_X12_init_201 rfl rfl rfl rfl ?_
  have hs19 := ss_step (k := 224) (t := 0) (n := 40) (c' := 1) (s := 28) (r := some 224) hs17 (by decide)
  have hn20 := nn_step (k := 224) (t := 0) (n := 40) (c := 1) (s := 28) (r := some 224) hn18
  refine aw_aload_n (i := 0) rfl d_X12_init_204 0 rfl ?_
  refine aw_sipush (v := 160) d_X12_init_205 is_160 ?_
  refine aw_newa (t := 0) (atype := .int) 225 160 (by decide) rfl tw_51 (hn20 225 (by decide) (by decide)) (by decide) xs0 (by decide +kernel) (by decide +kernel) (by decide +kernel) (show 25 + 1 ≤ 100 from by decide +kernel) (show 240500 + 160 ≤ 288204 from by decide +kernel) d_X12_init_208 ?_
  refine aw_putrF (k0 := 30) kc_12 (ss_n hs19 (by decide)) (Nat.le_of_ble_eq_true rfl) tw_1772 d_X12_init_210 rfl rfl rfl rfl ?_
  have hs21 := ss_step (k := 225) (t := 0) (n := 160) (c' := 1) (s := 30) (r := some 225) hs19 (by decide)
  have hn22 := nn_step (k := 225) (t := 0) (n := 160) (c := 1) (s := 30) (r := some 225) hn20
  refine aw_aload_n (i := 0) rfl d_X12_init_213 0 rfl ?_
  refine aw_sipush (v := 560) d_X12_init_214 is_560 ?_
  refine aw_newa (t := 0) (atype := .int) 226 560 (by decide) rfl tw_51 (hn22 226 (by decide) (by decide)) (by decide) xs0 (by decide +kernel) (by decide +kernel) (by decide +kernel) (show 26 + 1 ≤ 100 from by decide +kernel) (show 240660 + 560 ≤ 288204 from by decide +kernel) d_X12_init_217 ?_
  refine aw_putrF (k0 := 31) kc_12 (ss_n hs21 (by decide)) (Nat.le_of_ble_eq_true rfl) tw_1773 d_X12_init_219 rfl rfl rfl rfl ?_
  have hs23 := ss_step (k := 226) (t := 0) (n := 560) (c' := 1) (s := 31) (r := some 226) hs21 (by decide)
  have hn24 := nn_step (k := 226) (t := 0) (n := 560) (c := 1) (s := 31) (r := some 226) hn22
  refine aw_aload_n (i := 0) rfl d_X12_init_222 0 rfl ?_
  refine aw_bipush (v := 12) d_X12_init_223 ib_12 ?_
  refine aw_newa (t := 0) (atype := .int) 227 12 (by decide) rfl tw_51 (hn24 227 (by decide) (by decide)) (by decide) xs0 (by decide +kernel) (by decide +kernel) (by decide +kernel) (show 27 + 1 ≤ 100 from by decide +kernel) (show 241220 + 12 ≤ 288204 from by decide +kernel) d_X12_init_225 ?_
  refine aw_putrF (k0 := 38) kc_12 (ss_n hs23 (by decide)) (Nat.le_of_ble_eq_true rfl) tw_1780 d_X12_init_227 rfl rfl rfl rfl ?_
  have hs25 := ss_step (k := 227) (t := 0) (n := 12) (c' := 1) (s := 38) (r := some 227) hs23 (by decide)
  have hn26 := nn_step (k := 227) (t := 0) (n := 12) (c := 1) (s := 38) (r := some 227) hn24
  refine aw_aload_n (i := 0) rfl d_X12_init_230 0 rfl ?_
  refine aw_sipush (v := 1800) d_X12_init_231 is_1800 ?_
  refine aw_newa (t := 0) (atype := .int) 228 1800 (by decide) rfl tw_51 (hn26 228 (by decide) (by decide)) (by decide) xs0 (by decide +kernel) (by decide +kernel) (by decide +kernel) (show 28 + 1 ≤ 100 from by decide +kernel) (show 241232 + 1800 ≤ 288204 from by decide +kernel) d_X12_init_234 ?_
  refine aw_putrF (k0 := 39) kc_12 (ss_n hs25 (by decide)) (Nat.le_of_ble_eq_true rfl) tw_1781 d_X12_init_236 rfl rfl rfl rfl ?_
  have hs27 := ss_step (k := 228) (t := 0) (n := 1800) (c' := 1) (s := 39) (r := some 228) hs25 (by decide)
  have hn28 := nn_step (k := 228) (t := 0) (n := 1800) (c := 1) (s := 39) (r := some 228) hn26
  refine aw_aload_n (i := 0) rfl d_X12_init_239 0 rfl ?_
  refine aw_sipush (v := 1800) d_X12_init_240 is_1800 ?_
  refine aw_newa (t := 0) (atype := .int) 229 1800 (by decide) rfl tw_51 (hn28 229 (by decide) (by decide)) (by decide) xs0 (by decide +kernel) (by decide +kernel) (by decide +kernel) (show 29 + 1 ≤ 100 from by decide +kernel) (show 243032 + 1800 ≤ 288204 from by decide +kernel) d_X12_init_243 ?_
  refine aw_putrF (k0 := 40) kc_12 (ss_n hs27 (by decide)) (Nat.le_of_ble_eq_true rfl) tw_1782 d_X12_init_245 rfl rfl rfl rfl ?_
  have hs29 := ss_step (k := 229) (t := 0) (n := 1800) (c' := 1) (s := 40) (r := some 229) hs27 (by decide)
  have hn30 := nn_step (k := 229) (t := 0) (n := 1800) (c := 1) (s := 40) (r := some 229) hn28
  exact k
noncomputable def CC_2 (h : Hp_) : Hp_ := h_rm (h_nw (h_rm (h_nw (h_rm (h_nw (h_rm (h_nw (h_rm (h_nw (h_rm (h_nw (h_rm (h_nw (h_rm (h_nw (h_rm (h_nw (h_rm (h_nw (h_rm (h_nw (h_rm (h_nw (h_rm (h_nw (h_rm (h_nw (h_rm (h_nw h 230 0 1800) 1 41 (some 230)) 231 0 22400) 1 45 (some 231)) 232 0 40) 1 46 (some 232)) 233 0 40) 1 47 (some 233)) 234 0 40) 1 48 (some 234)) 235 0 2) 1 49 (some 235)) 236 0 128) 1 50 (some 236)) 237 0 200) 1 51 (some 237)) 238 0 400) 1 53 (some 238)) 239 0 400) 1 54 (some 239)) 240 0 400) 1 55 (some 240)) 241 0 400) 1 56 (some 241)) 242 0 400) 1 57 (some 242)) 243 0 400) 1 58 (some 243)) 244 0 400) 1 59 (some 244)
theorem cf_2 (h : Hp_) (hs : h_sh h 1 = some (22, 131)) (hn : ∀ a, 230 ≤ a → a < 300 → h_sh h a = none) : h_sh (CC_2 h) 1 = some (22, 131) ∧ (∀ a, 245 ≤ a → a < 300 → h_sh (CC_2 h) a = none) := by
  have hs1 := ss_step (k := 230) (t := 0) (n := 1800) (c' := 1) (s := 41) (r := some 230) hs (by decide)
  have hn2 := nn_step (k := 230) (t := 0) (n := 1800) (c := 1) (s := 41) (r := some 230) hn
  have hs3 := ss_step (k := 231) (t := 0) (n := 22400) (c' := 1) (s := 45) (r := some 231) hs1 (by decide)
  have hn4 := nn_step (k := 231) (t := 0) (n := 22400) (c := 1) (s := 45) (r := some 231) hn2
  have hs5 := ss_step (k := 232) (t := 0) (n := 40) (c' := 1) (s := 46) (r := some 232) hs3 (by decide)
  have hn6 := nn_step (k := 232) (t := 0) (n := 40) (c := 1) (s := 46) (r := some 232) hn4
  have hs7 := ss_step (k := 233) (t := 0) (n := 40) (c' := 1) (s := 47) (r := some 233) hs5 (by decide)
  have hn8 := nn_step (k := 233) (t := 0) (n := 40) (c := 1) (s := 47) (r := some 233) hn6
  have hs9 := ss_step (k := 234) (t := 0) (n := 40) (c' := 1) (s := 48) (r := some 234) hs7 (by decide)
  have hn10 := nn_step (k := 234) (t := 0) (n := 40) (c := 1) (s := 48) (r := some 234) hn8
  have hs11 := ss_step (k := 235) (t := 0) (n := 2) (c' := 1) (s := 49) (r := some 235) hs9 (by decide)
  have hn12 := nn_step (k := 235) (t := 0) (n := 2) (c := 1) (s := 49) (r := some 235) hn10
  have hs13 := ss_step (k := 236) (t := 0) (n := 128) (c' := 1) (s := 50) (r := some 236) hs11 (by decide)
  have hn14 := nn_step (k := 236) (t := 0) (n := 128) (c := 1) (s := 50) (r := some 236) hn12
  have hs15 := ss_step (k := 237) (t := 0) (n := 200) (c' := 1) (s := 51) (r := some 237) hs13 (by decide)
  have hn16 := nn_step (k := 237) (t := 0) (n := 200) (c := 1) (s := 51) (r := some 237) hn14
  have hs17 := ss_step (k := 238) (t := 0) (n := 400) (c' := 1) (s := 53) (r := some 238) hs15 (by decide)
  have hn18 := nn_step (k := 238) (t := 0) (n := 400) (c := 1) (s := 53) (r := some 238) hn16
  have hs19 := ss_step (k := 239) (t := 0) (n := 400) (c' := 1) (s := 54) (r := some 239) hs17 (by decide)
  have hn20 := nn_step (k := 239) (t := 0) (n := 400) (c := 1) (s := 54) (r := some 239) hn18
  have hs21 := ss_step (k := 240) (t := 0) (n := 400) (c' := 1) (s := 55) (r := some 240) hs19 (by decide)
  have hn22 := nn_step (k := 240) (t := 0) (n := 400) (c := 1) (s := 55) (r := some 240) hn20
  have hs23 := ss_step (k := 241) (t := 0) (n := 400) (c' := 1) (s := 56) (r := some 241) hs21 (by decide)
  have hn24 := nn_step (k := 241) (t := 0) (n := 400) (c := 1) (s := 56) (r := some 241) hn22
  have hs25 := ss_step (k := 242) (t := 0) (n := 400) (c' := 1) (s := 57) (r := some 242) hs23 (by decide)
  have hn26 := nn_step (k := 242) (t := 0) (n := 400) (c := 1) (s := 57) (r := some 242) hn24
  have hs27 := ss_step (k := 243) (t := 0) (n := 400) (c' := 1) (s := 58) (r := some 243) hs25 (by decide)
  have hn28 := nn_step (k := 243) (t := 0) (n := 400) (c := 1) (s := 58) (r := some 243) hn26
  have hs29 := ss_step (k := 244) (t := 0) (n := 400) (c' := 1) (s := 59) (r := some 244) hs27 (by decide)
  have hn30 := nn_step (k := 244) (t := 0) (n := 400) (c := 1) (s := 59) (r := some 244) hn28
  exact ⟨hs29, hn30⟩
theorem ck_2 (d : Nat) (h : Hp_) (K : Option Value → Hp_ → Prop) (hs : h_sh h 1 = some (22, 131)) (hn : ∀ a, 230 ≤ a → a < 300 → h_sh h a = none) (k : AW (m_X12_init (d + 1) 100 288204) 45 272282 378 [(0, .ref 1)] [] (CC_2 h) K) : AW (m_X12_init (d + 1) 100 288204) 30 244832 248 [(0, .ref 1)] [] h K := by
  refine aw_aload_n (i := 0) rfl d_X12_init_248 0 rfl ?_
  refine aw_sipush (v := 1800) d_X12_init_249 is_1800 ?_
  refine aw_newa (t := 0) (atype := .int) 230 1800 (by decide) rfl tw_51 (hn 230 (by decide) (by decide)) (by decide) xs0 (by decide +kernel) (by decide +kernel) (by decide +kernel) (show 30 + 1 ≤ 100 from by decide +kernel) (show 244832 + 1800 ≤ 288204 from by decide +kernel) d_X12_init_252 ?_
  refine aw_putrF (k0 := 41) kc_12 (ss_n hs (by decide)) (Nat.le_of_ble_eq_true rfl) tw_1783 d_X12_init_254 rfl rfl rfl rfl ?_
  have hs1 := ss_step (k := 230) (t := 0) (n := 1800) (c' := 1) (s := 41) (r := some 230) hs (by decide)
  have hn2 := nn_step (k := 230) (t := 0) (n := 1800) (c := 1) (s := 41) (r := some 230) hn
  refine aw_aload_n (i := 0) rfl d_X12_init_257 0 rfl ?_
  refine aw_sipush (v := 22400) d_X12_init_258 is_22400 ?_
  refine aw_newa (t := 0) (atype := .int) 231 22400 (by decide) rfl tw_51 (hn2 231 (by decide) (by decide)) (by decide) xs0 (by decide +kernel) (by decide +kernel) (by decide +kernel) (show 31 + 1 ≤ 100 from by decide +kernel) (show 246632 + 22400 ≤ 288204 from by decide +kernel) d_X12_init_261 ?_
  refine aw_putrF (k0 := 45) kc_12 (ss_n hs1 (by decide)) (Nat.le_of_ble_eq_true rfl) tw_1787 d_X12_init_263 rfl rfl rfl rfl ?_
  have hs3 := ss_step (k := 231) (t := 0) (n := 22400) (c' := 1) (s := 45) (r := some 231) hs1 (by decide)
  have hn4 := nn_step (k := 231) (t := 0) (n := 22400) (c := 1) (s := 45) (r := some 231) hn2
  refine aw_aload_n (i := 0) rfl d_X12_init_266 0 rfl ?_
  refine aw_bipush (v := 40) d_X12_init_267 ib_40 ?_
  refine aw_newa (t := 0) (atype := .int) 232 40 (by decide) rfl tw_51 (hn4 232 (by decide) (by decide)) (by decide) xs0 (by decide +kernel) (by decide +kernel) (by decide +kernel) (show 32 + 1 ≤ 100 from by decide +kernel) (show 269032 + 40 ≤ 288204 from by decide +kernel) d_X12_init_269 ?_
  refine aw_putrF (k0 := 46) kc_12 (ss_n hs3 (by decide)) (Nat.le_of_ble_eq_true rfl) tw_1788 d_X12_init_271 rfl rfl rfl rfl ?_
  have hs5 := ss_step (k := 232) (t := 0) (n := 40) (c' := 1) (s := 46) (r := some 232) hs3 (by decide)
  have hn6 := nn_step (k := 232) (t := 0) (n := 40) (c := 1) (s := 46) (r := some 232) hn4
  refine aw_aload_n (i := 0) rfl d_X12_init_274 0 rfl ?_
  refine aw_bipush (v := 40) d_X12_init_275 ib_40 ?_
  refine aw_newa (t := 0) (atype := .int) 233 40 (by decide) rfl tw_51 (hn6 233 (by decide) (by decide)) (by decide) xs0 (by decide +kernel) (by decide +kernel) (by decide +kernel) (show 33 + 1 ≤ 100 from by decide +kernel) (show 269072 + 40 ≤ 288204 from by decide +kernel) d_X12_init_277 ?_
  refine aw_putrF (k0 := 47) kc_12 (ss_n hs5 (by decide)) (Nat.le_of_ble_eq_true rfl) tw_1789 d_X12_init_279 rfl rfl rfl rfl ?_
  have hs7 := ss_step (k := 233) (t := 0) (n := 40) (c' := 1) (s := 47) (r := some 233) hs5 (by decide)
  have hn8 := nn_step (k := 233) (t := 0) (n := 40) (c := 1) (s := 47) (r := some 233) hn6
  refine aw_aload_n (i := 0) rfl d_X12_init_282 0 rfl ?_
  refine aw_bipush (v := 40) d_X12_init_283 ib_40 ?_
  refine aw_newa (t := 0) (atype := .int) 234 40 (by decide) rfl tw_51 (hn8 234 (by decide) (by decide)) (by decide) xs0 (by decide +kernel) (by decide +kernel) (by decide +kernel) (show 34 + 1 ≤ 100 from by decide +kernel) (show 269112 + 40 ≤ 288204 from by decide +kernel) d_X12_init_285 ?_
  refine aw_putrF (k0 := 48) kc_12 (ss_n hs7 (by decide)) (Nat.le_of_ble_eq_true rfl) tw_1790 d_X12_init_287 rfl rfl rfl rfl ?_
  have hs9 := ss_step (k := 234) (t := 0) (n := 40) (c' := 1) (s := 48) (r := some 234) hs7 (by decide)
  have hn10 := nn_step (k := 234) (t := 0) (n := 40) (c := 1) (s := 48) (r := some 234) hn8
  refine aw_aload_n (i := 0) rfl d_X12_init_290 0 rfl ?_
  refine aw_iconst (v := 2) d_X12_init_291 ic_2 ?_
  refine aw_newa (t := 0) (atype := .int) 235 2 (by decide) rfl tw_51 (hn10 235 (by decide) (by decide)) (by decide) xs0 (by decide +kernel) (by decide +kernel) (by decide +kernel) (show 35 + 1 ≤ 100 from by decide +kernel) (show 269152 + 2 ≤ 288204 from by decide +kernel) d_X12_init_292 ?_
  refine aw_putrF (k0 := 49) kc_12 (ss_n hs9 (by decide)) (Nat.le_of_ble_eq_true rfl) tw_1791 d_X12_init_294 rfl rfl rfl rfl ?_
  have hs11 := ss_step (k := 235) (t := 0) (n := 2) (c' := 1) (s := 49) (r := some 235) hs9 (by decide)
  have hn12 := nn_step (k := 235) (t := 0) (n := 2) (c := 1) (s := 49) (r := some 235) hn10
  refine aw_aload_n (i := 0) rfl d_X12_init_297 0 rfl ?_
  refine aw_sipush (v := 128) d_X12_init_298 is_128 ?_
  refine aw_newa (t := 0) (atype := .int) 236 128 (by decide) rfl tw_51 (hn12 236 (by decide) (by decide)) (by decide) xs0 (by decide +kernel) (by decide +kernel) (by decide +kernel) (show 36 + 1 ≤ 100 from by decide +kernel) (show 269154 + 128 ≤ 288204 from by decide +kernel) d_X12_init_301 ?_
  refine aw_putrF (k0 := 50) kc_12 (ss_n hs11 (by decide)) (Nat.le_of_ble_eq_true rfl) tw_1792 d_X12_init_303 rfl rfl rfl rfl ?_
  have hs13 := ss_step (k := 236) (t := 0) (n := 128) (c' := 1) (s := 50) (r := some 236) hs11 (by decide)
  have hn14 := nn_step (k := 236) (t := 0) (n := 128) (c := 1) (s := 50) (r := some 236) hn12
  refine aw_aload_n (i := 0) rfl d_X12_init_306 0 rfl ?_
  refine aw_sipush (v := 200) d_X12_init_307 is_200 ?_
  refine aw_newa (t := 0) (atype := .int) 237 200 (by decide) rfl tw_51 (hn14 237 (by decide) (by decide)) (by decide) xs0 (by decide +kernel) (by decide +kernel) (by decide +kernel) (show 37 + 1 ≤ 100 from by decide +kernel) (show 269282 + 200 ≤ 288204 from by decide +kernel) d_X12_init_310 ?_
  refine aw_putrF (k0 := 51) kc_12 (ss_n hs13 (by decide)) (Nat.le_of_ble_eq_true rfl) tw_1793 d_X12_init_312 rfl rfl rfl rfl ?_
  have hs15 := ss_step (k := 237) (t := 0) (n := 200) (c' := 1) (s := 51) (r := some 237) hs13 (by decide)
  have hn16 := nn_step (k := 237) (t := 0) (n := 200) (c := 1) (s := 51) (r := some 237) hn14
  refine aw_aload_n (i := 0) rfl d_X12_init_315 0 rfl ?_
  refine aw_sipush (v := 400) d_X12_init_316 is_400 ?_
  refine aw_newa (t := 0) (atype := .int) 238 400 (by decide) rfl tw_51 (hn16 238 (by decide) (by decide)) (by decide) xs0 (by decide +kernel) (by decide +kernel) (by decide +kernel) (show 38 + 1 ≤ 100 from by decide +kernel) (show 269482 + 400 ≤ 288204 from by decide +kernel) d_X12_init_319 ?_
  refine aw_putrF (k0 := 53) kc_12 (ss_n hs15 (by decide)) (Nat.le_of_ble_eq_true rfl) tw_1795 d_X12_init_321 rfl rfl rfl rfl ?_
  have hs17 := ss_step (k := 238) (t := 0) (n := 400) (c' := 1) (s := 53) (r := some 238) hs15 (by decide)
  have hn18 := nn_step (k := 238) (t := 0) (n := 400) (c := 1) (s := 53) (r := some 238) hn16
  refine aw_aload_n (i := 0) rfl d_X12_init_324 0 rfl ?_
  refine aw_sipush (v := 400) d_X12_init_325 is_400 ?_
  refine aw_newa (t := 0) (atype := .int) 239 400 (by decide) rfl tw_51 (hn18 239 (by decide) (by decide)) (by decide) xs0 (by decide +kernel) (by decide +kernel) (by decide +kernel) (show 39 + 1 ≤ 100 from by decide +kernel) (show 269882 + 400 ≤ 288204 from by decide +kernel) d_X12_init_328 ?_
  refine aw_putrF (k0 := 54) kc_12 (ss_n hs17 (by decide)) (Nat.le_of_ble_eq_true rfl) tw_1796 d_X12_init_330 rfl rfl rfl rfl ?_
  have hs19 := ss_step (k := 239) (t := 0) (n := 400) (c' := 1) (s := 54) (r := some 239) hs17 (by decide)
  have hn20 := nn_step (k := 239) (t := 0) (n := 400) (c := 1) (s := 54) (r := some 239) hn18
  refine aw_aload_n (i := 0) rfl d_X12_init_333 0 rfl ?_
  refine aw_sipush (v := 400) d_X12_init_334 is_400 ?_
  refine aw_newa (t := 0) (atype := .int) 240 400 (by decide) rfl tw_51 (hn20 240 (by decide) (by decide)) (by decide) xs0 (by decide +kernel) (by decide +kernel) (by decide +kernel) (show 40 + 1 ≤ 100 from by decide +kernel) (show 270282 + 400 ≤ 288204 from by decide +kernel) d_X12_init_337 ?_
  refine aw_putrF (k0 := 55) kc_12 (ss_n hs19 (by decide)) (Nat.le_of_ble_eq_true rfl) tw_1797 d_X12_init_339 rfl rfl rfl rfl ?_
  have hs21 := ss_step (k := 240) (t := 0) (n := 400) (c' := 1) (s := 55) (r := some 240) hs19 (by decide)
  have hn22 := nn_step (k := 240) (t := 0) (n := 400) (c := 1) (s := 55) (r := some 240) hn20
  refine aw_aload_n (i := 0) rfl d_X12_init_342 0 rfl ?_
  refine aw_sipush (v := 400) d_X12_init_343 is_400 ?_
  refine aw_newa (t := 0) (atype := .int) 241 400 (by decide) rfl tw_51 (hn22 241 (by decide) (by decide)) (by decide) xs0 (by decide +kernel) (by decide +kernel) (by decide +kernel) (show 41 + 1 ≤ 100 from by decide +kernel) (show 270682 + 400 ≤ 288204 from by decide +kernel) d_X12_init_346 ?_
  refine aw_putrF (k0 := 56) kc_12 (ss_n hs21 (by decide)) (Nat.le_of_ble_eq_true rfl) tw_1798 d_X12_init_348 rfl rfl rfl rfl ?_
  have hs23 := ss_step (k := 241) (t := 0) (n := 400) (c' := 1) (s := 56) (r := some 241) hs21 (by decide)
  have hn24 := nn_step (k := 241) (t := 0) (n := 400) (c := 1) (s := 56) (r := some 241) hn22
  refine aw_aload_n (i := 0) rfl d_X12_init_351 0 rfl ?_
  refine aw_sipush (v := 400) d_X12_init_352 is_400 ?_
  refine aw_newa (t := 0) (atype := .int) 242 400 (by decide) rfl tw_51 (hn24 242 (by decide) (by decide)) (by decide) xs0 (by decide +kernel) (by decide +kernel) (by decide +kernel) (show 42 + 1 ≤ 100 from by decide +kernel) (show 271082 + 400 ≤ 288204 from by decide +kernel) d_X12_init_355 ?_
  refine aw_putrF (k0 := 57) kc_12 (ss_n hs23 (by decide)) (Nat.le_of_ble_eq_true rfl) tw_1799 d_X12_init_357 rfl rfl rfl rfl ?_
  have hs25 := ss_step (k := 242) (t := 0) (n := 400) (c' := 1) (s := 57) (r := some 242) hs23 (by decide)
  have hn26 := nn_step (k := 242) (t := 0) (n := 400) (c := 1) (s := 57) (r := some 242) hn24
  refine aw_aload_n (i := 0) rfl d_X12_init_360 0 rfl ?_
  refine aw_sipush (v := 400) d_X12_init_361 is_400 ?_
  refine aw_newa (t := 0) (atype := .int) 243 400 (by decide) rfl tw_51 (hn26 243 (by decide) (by decide)) (by decide) xs0 (by decide +kernel) (by decide +kernel) (by decide +kernel) (show 43 + 1 ≤ 100 from by decide +kernel) (show 271482 + 400 ≤ 288204 from by decide +kernel) d_X12_init_364 ?_
  refine aw_putrF (k0 := 58) kc_12 (ss_n hs25 (by decide)) (Nat.le_of_ble_eq_true rfl) tw_1800 d_X12_init_366 rfl rfl rfl rfl ?_
  have hs27 := ss_step (k := 243) (t := 0) (n := 400) (c' := 1) (s := 58) (r := some 243) hs25 (by decide)
  have hn28 := nn_step (k := 243) (t := 0) (n := 400) (c := 1) (s := 58) (r := some 243) hn26
  refine aw_aload_n (i := 0) rfl d_X12_init_369 0 rfl ?_
  refine aw_sipush (v := 400) d_X12_init_370 is_400 ?_
  refine aw_newa (t := 0) (atype := .int) 244 400 (by decide) rfl tw_51 (hn28 244 (by decide) (by decide)) (by decide) xs0 (by decide +kernel) (by decide +kernel) (by decide +kernel) (show 44 + 1 ≤ 100 from by decide +kernel) (show 271882 + 400 ≤ 288204 from by decide +kernel) d_X12_init_373 ?_
  refine aw_putrF (k0 := 59) kc_12 (ss_n hs27 (by decide)) (Nat.le_of_ble_eq_true rfl) tw_1801 d_X12_init_375 rfl rfl rfl rfl ?_
  have hs29 := ss_step (k := 244) (t := 0) (n := 400) (c' := 1) (s := 59) (r := some 244) hs27 (by decide)
  have hn30 := nn_step (k := 244) (t := 0) (n := 400) (c := 1) (s := 59) (r := some 244) hn28
  exact k
noncomputable def CC_3 (h : Hp_) : Hp_ := h_rm (h_nw (h_rm (h_nw (h_rm (h_nw (h_rm (h_nw (h_rm (h_nw (h_rm (h_nw (h_rm (h_nw (h_rm (h_nw (h_rm (h_nw (h_rm (h_nw (h_rm (h_nw (h_rm (h_nw (h_rm (h_nw (h_rm (h_nw (h_rm (h_nw h 245 0 200) 1 60 (some 245)) 246 0 200) 1 61 (some 246)) 247 0 200) 1 62 (some 247)) 248 1 12) 1 65 (some 248)) 249 0 80) 1 66 (some 249)) 250 0 80) 1 67 (some 250)) 251 0 80) 1 68 (some 251)) 252 0 80) 1 69 (some 252)) 253 0 80) 1 70 (some 253)) 254 1 80) 1 71 (some 254)) 255 0 300) 1 72 (some 255)) 256 0 300) 1 73 (some 256)) 257 0 300) 1 74 (some 257)) 258 0 300) 1 75 (some 258)) 259 0 300) 1 76 (some 259)
theorem cf_3 (h : Hp_) (hs : h_sh h 1 = some (22, 131)) (hn : ∀ a, 245 ≤ a → a < 300 → h_sh h a = none) : h_sh (CC_3 h) 1 = some (22, 131) ∧ (∀ a, 260 ≤ a → a < 300 → h_sh (CC_3 h) a = none) := by
  have hs1 := ss_step (k := 245) (t := 0) (n := 200) (c' := 1) (s := 60) (r := some 245) hs (by decide)
  have hn2 := nn_step (k := 245) (t := 0) (n := 200) (c := 1) (s := 60) (r := some 245) hn
  have hs3 := ss_step (k := 246) (t := 0) (n := 200) (c' := 1) (s := 61) (r := some 246) hs1 (by decide)
  have hn4 := nn_step (k := 246) (t := 0) (n := 200) (c := 1) (s := 61) (r := some 246) hn2
  have hs5 := ss_step (k := 247) (t := 0) (n := 200) (c' := 1) (s := 62) (r := some 247) hs3 (by decide)
  have hn6 := nn_step (k := 247) (t := 0) (n := 200) (c := 1) (s := 62) (r := some 247) hn4
  have hs7 := ss_step (k := 248) (t := 1) (n := 12) (c' := 1) (s := 65) (r := some 248) hs5 (by decide)
  have hn8 := nn_step (k := 248) (t := 1) (n := 12) (c := 1) (s := 65) (r := some 248) hn6
  have hs9 := ss_step (k := 249) (t := 0) (n := 80) (c' := 1) (s := 66) (r := some 249) hs7 (by decide)
  have hn10 := nn_step (k := 249) (t := 0) (n := 80) (c := 1) (s := 66) (r := some 249) hn8
  have hs11 := ss_step (k := 250) (t := 0) (n := 80) (c' := 1) (s := 67) (r := some 250) hs9 (by decide)
  have hn12 := nn_step (k := 250) (t := 0) (n := 80) (c := 1) (s := 67) (r := some 250) hn10
  have hs13 := ss_step (k := 251) (t := 0) (n := 80) (c' := 1) (s := 68) (r := some 251) hs11 (by decide)
  have hn14 := nn_step (k := 251) (t := 0) (n := 80) (c := 1) (s := 68) (r := some 251) hn12
  have hs15 := ss_step (k := 252) (t := 0) (n := 80) (c' := 1) (s := 69) (r := some 252) hs13 (by decide)
  have hn16 := nn_step (k := 252) (t := 0) (n := 80) (c := 1) (s := 69) (r := some 252) hn14
  have hs17 := ss_step (k := 253) (t := 0) (n := 80) (c' := 1) (s := 70) (r := some 253) hs15 (by decide)
  have hn18 := nn_step (k := 253) (t := 0) (n := 80) (c := 1) (s := 70) (r := some 253) hn16
  have hs19 := ss_step (k := 254) (t := 1) (n := 80) (c' := 1) (s := 71) (r := some 254) hs17 (by decide)
  have hn20 := nn_step (k := 254) (t := 1) (n := 80) (c := 1) (s := 71) (r := some 254) hn18
  have hs21 := ss_step (k := 255) (t := 0) (n := 300) (c' := 1) (s := 72) (r := some 255) hs19 (by decide)
  have hn22 := nn_step (k := 255) (t := 0) (n := 300) (c := 1) (s := 72) (r := some 255) hn20
  have hs23 := ss_step (k := 256) (t := 0) (n := 300) (c' := 1) (s := 73) (r := some 256) hs21 (by decide)
  have hn24 := nn_step (k := 256) (t := 0) (n := 300) (c := 1) (s := 73) (r := some 256) hn22
  have hs25 := ss_step (k := 257) (t := 0) (n := 300) (c' := 1) (s := 74) (r := some 257) hs23 (by decide)
  have hn26 := nn_step (k := 257) (t := 0) (n := 300) (c := 1) (s := 74) (r := some 257) hn24
  have hs27 := ss_step (k := 258) (t := 0) (n := 300) (c' := 1) (s := 75) (r := some 258) hs25 (by decide)
  have hn28 := nn_step (k := 258) (t := 0) (n := 300) (c := 1) (s := 75) (r := some 258) hn26
  have hs29 := ss_step (k := 259) (t := 0) (n := 300) (c' := 1) (s := 76) (r := some 259) hs27 (by decide)
  have hn30 := nn_step (k := 259) (t := 0) (n := 300) (c := 1) (s := 76) (r := some 259) hn28
  exact ⟨hs29, hn30⟩
theorem ck_3 (d : Nat) (h : Hp_) (K : Option Value → Hp_ → Prop) (hs : h_sh h 1 = some (22, 131)) (hn : ∀ a, 245 ≤ a → a < 300 → h_sh h a = none) (k : AW (m_X12_init (d + 1) 100 288204) 60 274874 506 [(0, .ref 1)] [] (CC_3 h) K) : AW (m_X12_init (d + 1) 100 288204) 45 272282 378 [(0, .ref 1)] [] h K := by
  refine aw_aload_n (i := 0) rfl d_X12_init_378 0 rfl ?_
  refine aw_sipush (v := 200) d_X12_init_379 is_200 ?_
  refine aw_newa (t := 0) (atype := .int) 245 200 (by decide) rfl tw_51 (hn 245 (by decide) (by decide)) (by decide) xs0 (by decide +kernel) (by decide +kernel) (by decide +kernel) (show 45 + 1 ≤ 100 from by decide +kernel) (show 272282 + 200 ≤ 288204 from by decide +kernel) d_X12_init_382 ?_
  refine aw_putrF (k0 := 60) kc_12 (ss_n hs (by decide)) (Nat.le_of_ble_eq_true rfl) tw_1802 d_X12_init_384 rfl rfl rfl rfl ?_
  have hs1 := ss_step (k := 245) (t := 0) (n := 200) (c' := 1) (s := 60) (r := some 245) hs (by decide)
  have hn2 := nn_step (k := 245) (t := 0) (n := 200) (c := 1) (s := 60) (r := some 245) hn
  refine aw_aload_n (i := 0) rfl d_X12_init_387 0 rfl ?_
  refine aw_sipush (v := 200) d_X12_init_388 is_200 ?_
  refine aw_newa (t := 0) (atype := .int) 246 200 (by decide) rfl tw_51 (hn2 246 (by decide) (by decide)) (by decide) xs0 (by decide +kernel) (by decide +kernel) (by decide +kernel) (show 46 + 1 ≤ 100 from by decide +kernel) (show 272482 + 200 ≤ 288204 from by decide +kernel) d_X12_init_391 ?_
  refine aw_putrF (k0 := 61) kc_12 (ss_n hs1 (by decide)) (Nat.le_of_ble_eq_true rfl) tw_1803 d_X12_init_393 rfl rfl rfl rfl ?_
  have hs3 := ss_step (k := 246) (t := 0) (n := 200) (c' := 1) (s := 61) (r := some 246) hs1 (by decide)
  have hn4 := nn_step (k := 246) (t := 0) (n := 200) (c := 1) (s := 61) (r := some 246) hn2
  refine aw_aload_n (i := 0) rfl d_X12_init_396 0 rfl ?_
  refine aw_sipush (v := 200) d_X12_init_397 is_200 ?_
  refine aw_newa (t := 0) (atype := .int) 247 200 (by decide) rfl tw_51 (hn4 247 (by decide) (by decide)) (by decide) xs0 (by decide +kernel) (by decide +kernel) (by decide +kernel) (show 47 + 1 ≤ 100 from by decide +kernel) (show 272682 + 200 ≤ 288204 from by decide +kernel) d_X12_init_400 ?_
  refine aw_putrF (k0 := 62) kc_12 (ss_n hs3 (by decide)) (Nat.le_of_ble_eq_true rfl) tw_1804 d_X12_init_402 rfl rfl rfl rfl ?_
  have hs5 := ss_step (k := 247) (t := 0) (n := 200) (c' := 1) (s := 62) (r := some 247) hs3 (by decide)
  have hn6 := nn_step (k := 247) (t := 0) (n := 200) (c := 1) (s := 62) (r := some 247) hn4
  refine aw_aload_n (i := 0) rfl d_X12_init_405 0 rfl ?_
  refine aw_bipush (v := 12) d_X12_init_406 ib_12 ?_
  refine aw_newa (t := 1) (atype := .boolean) 248 12 (by decide) rfl tw_252 (hn6 248 (by decide) (by decide)) (by decide) xs0 (by decide +kernel) (by decide +kernel) (by decide +kernel) (show 48 + 1 ≤ 100 from by decide +kernel) (show 272882 + 12 ≤ 288204 from by decide +kernel) d_X12_init_408 ?_
  refine aw_putrF (k0 := 65) kc_12 (ss_n hs5 (by decide)) (Nat.le_of_ble_eq_true rfl) tw_1807 d_X12_init_410 rfl rfl rfl rfl ?_
  have hs7 := ss_step (k := 248) (t := 1) (n := 12) (c' := 1) (s := 65) (r := some 248) hs5 (by decide)
  have hn8 := nn_step (k := 248) (t := 1) (n := 12) (c := 1) (s := 65) (r := some 248) hn6
  refine aw_aload_n (i := 0) rfl d_X12_init_413 0 rfl ?_
  refine aw_bipush (v := 80) d_X12_init_414 ib_80 ?_
  refine aw_newa (t := 0) (atype := .int) 249 80 (by decide) rfl tw_51 (hn8 249 (by decide) (by decide)) (by decide) xs0 (by decide +kernel) (by decide +kernel) (by decide +kernel) (show 49 + 1 ≤ 100 from by decide +kernel) (show 272894 + 80 ≤ 288204 from by decide +kernel) d_X12_init_416 ?_
  refine aw_putrF (k0 := 66) kc_12 (ss_n hs7 (by decide)) (Nat.le_of_ble_eq_true rfl) tw_1808 d_X12_init_418 rfl rfl rfl rfl ?_
  have hs9 := ss_step (k := 249) (t := 0) (n := 80) (c' := 1) (s := 66) (r := some 249) hs7 (by decide)
  have hn10 := nn_step (k := 249) (t := 0) (n := 80) (c := 1) (s := 66) (r := some 249) hn8
  refine aw_aload_n (i := 0) rfl d_X12_init_421 0 rfl ?_
  refine aw_bipush (v := 80) d_X12_init_422 ib_80 ?_
  refine aw_newa (t := 0) (atype := .int) 250 80 (by decide) rfl tw_51 (hn10 250 (by decide) (by decide)) (by decide) xs0 (by decide +kernel) (by decide +kernel) (by decide +kernel) (show 50 + 1 ≤ 100 from by decide +kernel) (show 272974 + 80 ≤ 288204 from by decide +kernel) d_X12_init_424 ?_
  refine aw_putrF (k0 := 67) kc_12 (ss_n hs9 (by decide)) (Nat.le_of_ble_eq_true rfl) tw_1809 d_X12_init_426 rfl rfl rfl rfl ?_
  have hs11 := ss_step (k := 250) (t := 0) (n := 80) (c' := 1) (s := 67) (r := some 250) hs9 (by decide)
  have hn12 := nn_step (k := 250) (t := 0) (n := 80) (c := 1) (s := 67) (r := some 250) hn10
  refine aw_aload_n (i := 0) rfl d_X12_init_429 0 rfl ?_
  refine aw_bipush (v := 80) d_X12_init_430 ib_80 ?_
  refine aw_newa (t := 0) (atype := .int) 251 80 (by decide) rfl tw_51 (hn12 251 (by decide) (by decide)) (by decide) xs0 (by decide +kernel) (by decide +kernel) (by decide +kernel) (show 51 + 1 ≤ 100 from by decide +kernel) (show 273054 + 80 ≤ 288204 from by decide +kernel) d_X12_init_432 ?_
  refine aw_putrF (k0 := 68) kc_12 (ss_n hs11 (by decide)) (Nat.le_of_ble_eq_true rfl) tw_1810 d_X12_init_434 rfl rfl rfl rfl ?_
  have hs13 := ss_step (k := 251) (t := 0) (n := 80) (c' := 1) (s := 68) (r := some 251) hs11 (by decide)
  have hn14 := nn_step (k := 251) (t := 0) (n := 80) (c := 1) (s := 68) (r := some 251) hn12
  refine aw_aload_n (i := 0) rfl d_X12_init_437 0 rfl ?_
  refine aw_bipush (v := 80) d_X12_init_438 ib_80 ?_
  refine aw_newa (t := 0) (atype := .int) 252 80 (by decide) rfl tw_51 (hn14 252 (by decide) (by decide)) (by decide) xs0 (by decide +kernel) (by decide +kernel) (by decide +kernel) (show 52 + 1 ≤ 100 from by decide +kernel) (show 273134 + 80 ≤ 288204 from by decide +kernel) d_X12_init_440 ?_
  refine aw_putrF (k0 := 69) kc_12 (ss_n hs13 (by decide)) (Nat.le_of_ble_eq_true rfl) tw_1811 d_X12_init_442 rfl rfl rfl rfl ?_
  have hs15 := ss_step (k := 252) (t := 0) (n := 80) (c' := 1) (s := 69) (r := some 252) hs13 (by decide)
  have hn16 := nn_step (k := 252) (t := 0) (n := 80) (c := 1) (s := 69) (r := some 252) hn14
  refine aw_aload_n (i := 0) rfl d_X12_init_445 0 rfl ?_
  refine aw_bipush (v := 80) d_X12_init_446 ib_80 ?_
  refine aw_newa (t := 0) (atype := .int) 253 80 (by decide) rfl tw_51 (hn16 253 (by decide) (by decide)) (by decide) xs0 (by decide +kernel) (by decide +kernel) (by decide +kernel) (show 53 + 1 ≤ 100 from by decide +kernel) (show 273214 + 80 ≤ 288204 from by decide +kernel) d_X12_init_448 ?_
  refine aw_putrF (k0 := 70) kc_12 (ss_n hs15 (by decide)) (Nat.le_of_ble_eq_true rfl) tw_1812 d_X12_init_450 rfl rfl rfl rfl ?_
  have hs17 := ss_step (k := 253) (t := 0) (n := 80) (c' := 1) (s := 70) (r := some 253) hs15 (by decide)
  have hn18 := nn_step (k := 253) (t := 0) (n := 80) (c := 1) (s := 70) (r := some 253) hn16
  refine aw_aload_n (i := 0) rfl d_X12_init_453 0 rfl ?_
  refine aw_bipush (v := 80) d_X12_init_454 ib_80 ?_
  refine aw_newa (t := 1) (atype := .boolean) 254 80 (by decide) rfl tw_252 (hn18 254 (by decide) (by decide)) (by decide) xs0 (by decide +kernel) (by decide +kernel) (by decide +kernel) (show 54 + 1 ≤ 100 from by decide +kernel) (show 273294 + 80 ≤ 288204 from by decide +kernel) d_X12_init_456 ?_
  refine aw_putrF (k0 := 71) kc_12 (ss_n hs17 (by decide)) (Nat.le_of_ble_eq_true rfl) tw_1813 d_X12_init_458 rfl rfl rfl rfl ?_
  have hs19 := ss_step (k := 254) (t := 1) (n := 80) (c' := 1) (s := 71) (r := some 254) hs17 (by decide)
  have hn20 := nn_step (k := 254) (t := 1) (n := 80) (c := 1) (s := 71) (r := some 254) hn18
  refine aw_aload_n (i := 0) rfl d_X12_init_461 0 rfl ?_
  refine aw_sipush (v := 300) d_X12_init_462 is_300 ?_
  refine aw_newa (t := 0) (atype := .int) 255 300 (by decide) rfl tw_51 (hn20 255 (by decide) (by decide)) (by decide) xs0 (by decide +kernel) (by decide +kernel) (by decide +kernel) (show 55 + 1 ≤ 100 from by decide +kernel) (show 273374 + 300 ≤ 288204 from by decide +kernel) d_X12_init_465 ?_
  refine aw_putrF (k0 := 72) kc_12 (ss_n hs19 (by decide)) (Nat.le_of_ble_eq_true rfl) tw_1814 d_X12_init_467 rfl rfl rfl rfl ?_
  have hs21 := ss_step (k := 255) (t := 0) (n := 300) (c' := 1) (s := 72) (r := some 255) hs19 (by decide)
  have hn22 := nn_step (k := 255) (t := 0) (n := 300) (c := 1) (s := 72) (r := some 255) hn20
  refine aw_aload_n (i := 0) rfl d_X12_init_470 0 rfl ?_
  refine aw_sipush (v := 300) d_X12_init_471 is_300 ?_
  refine aw_newa (t := 0) (atype := .int) 256 300 (by decide) rfl tw_51 (hn22 256 (by decide) (by decide)) (by decide) xs0 (by decide +kernel) (by decide +kernel) (by decide +kernel) (show 56 + 1 ≤ 100 from by decide +kernel) (show 273674 + 300 ≤ 288204 from by decide +kernel) d_X12_init_474 ?_
  refine aw_putrF (k0 := 73) kc_12 (ss_n hs21 (by decide)) (Nat.le_of_ble_eq_true rfl) tw_1815 d_X12_init_476 rfl rfl rfl rfl ?_
  have hs23 := ss_step (k := 256) (t := 0) (n := 300) (c' := 1) (s := 73) (r := some 256) hs21 (by decide)
  have hn24 := nn_step (k := 256) (t := 0) (n := 300) (c := 1) (s := 73) (r := some 256) hn22
  refine aw_aload_n (i := 0) rfl d_X12_init_479 0 rfl ?_
  refine aw_sipush (v := 300) d_X12_init_480 is_300 ?_
  refine aw_newa (t := 0) (atype := .int) 257 300 (by decide) rfl tw_51 (hn24 257 (by decide) (by decide)) (by decide) xs0 (by decide +kernel) (by decide +kernel) (by decide +kernel) (show 57 + 1 ≤ 100 from by decide +kernel) (show 273974 + 300 ≤ 288204 from by decide +kernel) d_X12_init_483 ?_
  refine aw_putrF (k0 := 74) kc_12 (ss_n hs23 (by decide)) (Nat.le_of_ble_eq_true rfl) tw_1816 d_X12_init_485 rfl rfl rfl rfl ?_
  have hs25 := ss_step (k := 257) (t := 0) (n := 300) (c' := 1) (s := 74) (r := some 257) hs23 (by decide)
  have hn26 := nn_step (k := 257) (t := 0) (n := 300) (c := 1) (s := 74) (r := some 257) hn24
  refine aw_aload_n (i := 0) rfl d_X12_init_488 0 rfl ?_
  refine aw_sipush (v := 300) d_X12_init_489 is_300 ?_
  refine aw_newa (t := 0) (atype := .int) 258 300 (by decide) rfl tw_51 (hn26 258 (by decide) (by decide)) (by decide) xs0 (by decide +kernel) (by decide +kernel) (by decide +kernel) (show 58 + 1 ≤ 100 from by decide +kernel) (show 274274 + 300 ≤ 288204 from by decide +kernel) d_X12_init_492 ?_
  refine aw_putrF (k0 := 75) kc_12 (ss_n hs25 (by decide)) (Nat.le_of_ble_eq_true rfl) tw_1817 d_X12_init_494 rfl rfl rfl rfl ?_
  have hs27 := ss_step (k := 258) (t := 0) (n := 300) (c' := 1) (s := 75) (r := some 258) hs25 (by decide)
  have hn28 := nn_step (k := 258) (t := 0) (n := 300) (c := 1) (s := 75) (r := some 258) hn26
  refine aw_aload_n (i := 0) rfl d_X12_init_497 0 rfl ?_
  refine aw_sipush (v := 300) d_X12_init_498 is_300 ?_
  refine aw_newa (t := 0) (atype := .int) 259 300 (by decide) rfl tw_51 (hn28 259 (by decide) (by decide)) (by decide) xs0 (by decide +kernel) (by decide +kernel) (by decide +kernel) (show 59 + 1 ≤ 100 from by decide +kernel) (show 274574 + 300 ≤ 288204 from by decide +kernel) d_X12_init_501 ?_
  refine aw_putrF (k0 := 76) kc_12 (ss_n hs27 (by decide)) (Nat.le_of_ble_eq_true rfl) tw_1818 d_X12_init_503 rfl rfl rfl rfl ?_
  have hs29 := ss_step (k := 259) (t := 0) (n := 300) (c' := 1) (s := 76) (r := some 259) hs27 (by decide)
  have hn30 := nn_step (k := 259) (t := 0) (n := 300) (c := 1) (s := 76) (r := some 259) hn28
  exact k
noncomputable def CC_4 (h : Hp_) : Hp_ := h_rm (h_nw (h_rm (h_nw (h_rm (h_nw (h_rm (h_nw (h_rm (h_nw (h_rm (h_nw (h_rm (h_nw (h_rm (h_nw (h_rm (h_nw (h_rm (h_nw (h_rm (h_nw (h_rm (h_nw (h_rm (h_nw (h_rm (h_nw (h_rm (h_nw h 260 0 300) 1 77 (some 260)) 261 0 2700) 1 78 (some 261)) 262 0 30) 1 81 (some 262)) 263 0 30) 1 82 (some 263)) 264 0 10) 1 83 (some 264)) 265 0 8) 1 84 (some 265)) 266 0 200) 1 85 (some 266)) 267 0 200) 1 86 (some 267)) 268 0 200) 1 87 (some 268)) 269 0 200) 1 88 (some 269)) 270 1 200) 1 89 (some 270)) 271 0 16) 1 90 (some 271)) 272 1 16) 1 91 (some 272)) 273 0 180) 1 92 (some 273)) 274 0 180) 1 93 (some 274)
theorem cf_4 (h : Hp_) (hs : h_sh h 1 = some (22, 131)) (hn : ∀ a, 260 ≤ a → a < 300 → h_sh h a = none) : h_sh (CC_4 h) 1 = some (22, 131) ∧ (∀ a, 275 ≤ a → a < 300 → h_sh (CC_4 h) a = none) ∧ h_r (CC_4 h) 1 84 = some 265 ∧ h_sh (CC_4 h) 265 = some (0, 8) := by
  have hs1 := ss_step (k := 260) (t := 0) (n := 300) (c' := 1) (s := 77) (r := some 260) hs (by decide)
  have hn2 := nn_step (k := 260) (t := 0) (n := 300) (c := 1) (s := 77) (r := some 260) hn
  have hs3 := ss_step (k := 261) (t := 0) (n := 2700) (c' := 1) (s := 78) (r := some 261) hs1 (by decide)
  have hn4 := nn_step (k := 261) (t := 0) (n := 2700) (c := 1) (s := 78) (r := some 261) hn2
  have hs5 := ss_step (k := 262) (t := 0) (n := 30) (c' := 1) (s := 81) (r := some 262) hs3 (by decide)
  have hn6 := nn_step (k := 262) (t := 0) (n := 30) (c := 1) (s := 81) (r := some 262) hn4
  have hs7 := ss_step (k := 263) (t := 0) (n := 30) (c' := 1) (s := 82) (r := some 263) hs5 (by decide)
  have hn8 := nn_step (k := 263) (t := 0) (n := 30) (c := 1) (s := 82) (r := some 263) hn6
  have hs9 := ss_step (k := 264) (t := 0) (n := 10) (c' := 1) (s := 83) (r := some 264) hs7 (by decide)
  have hn10 := nn_step (k := 264) (t := 0) (n := 10) (c := 1) (s := 83) (r := some 264) hn8
  have hs11 := ss_step (k := 265) (t := 0) (n := 8) (c' := 1) (s := 84) (r := some 265) hs9 (by decide)
  have hn12 := nn_step (k := 265) (t := 0) (n := 8) (c := 1) (s := 84) (r := some 265) hn10
  have tr13 := rr_of hs11
  have ts14 := sh_of hs11
  have hs15 := ss_step (k := 266) (t := 0) (n := 200) (c' := 1) (s := 85) (r := some 266) hs11 (by decide)
  have hn16 := nn_step (k := 266) (t := 0) (n := 200) (c := 1) (s := 85) (r := some 266) hn12
  have tr17 := rr_step (k := 266) (t := 0) (n := 200) (c := 1) (s := 85) (r := some 266) tr13 (by decide) (by decide)
  have ts18 := ss_step (k := 266) (t := 0) (n := 200) (c' := 1) (s := 85) (r := some 266) ts14 (by decide)
  have hs19 := ss_step (k := 267) (t := 0) (n := 200) (c' := 1) (s := 86) (r := some 267) hs15 (by decide)
  have hn20 := nn_step (k := 267) (t := 0) (n := 200) (c := 1) (s := 86) (r := some 267) hn16
  have tr21 := rr_step (k := 267) (t := 0) (n := 200) (c := 1) (s := 86) (r := some 267) tr17 (by decide) (by decide)
  have ts22 := ss_step (k := 267) (t := 0) (n := 200) (c' := 1) (s := 86) (r := some 267) ts18 (by decide)
  have hs23 := ss_step (k := 268) (t := 0) (n := 200) (c' := 1) (s := 87) (r := some 268) hs19 (by decide)
  have hn24 := nn_step (k := 268) (t := 0) (n := 200) (c := 1) (s := 87) (r := some 268) hn20
  have tr25 := rr_step (k := 268) (t := 0) (n := 200) (c := 1) (s := 87) (r := some 268) tr21 (by decide) (by decide)
  have ts26 := ss_step (k := 268) (t := 0) (n := 200) (c' := 1) (s := 87) (r := some 268) ts22 (by decide)
  have hs27 := ss_step (k := 269) (t := 0) (n := 200) (c' := 1) (s := 88) (r := some 269) hs23 (by decide)
  have hn28 := nn_step (k := 269) (t := 0) (n := 200) (c := 1) (s := 88) (r := some 269) hn24
  have tr29 := rr_step (k := 269) (t := 0) (n := 200) (c := 1) (s := 88) (r := some 269) tr25 (by decide) (by decide)
  have ts30 := ss_step (k := 269) (t := 0) (n := 200) (c' := 1) (s := 88) (r := some 269) ts26 (by decide)
  have hs31 := ss_step (k := 270) (t := 1) (n := 200) (c' := 1) (s := 89) (r := some 270) hs27 (by decide)
  have hn32 := nn_step (k := 270) (t := 1) (n := 200) (c := 1) (s := 89) (r := some 270) hn28
  have tr33 := rr_step (k := 270) (t := 1) (n := 200) (c := 1) (s := 89) (r := some 270) tr29 (by decide) (by decide)
  have ts34 := ss_step (k := 270) (t := 1) (n := 200) (c' := 1) (s := 89) (r := some 270) ts30 (by decide)
  have hs35 := ss_step (k := 271) (t := 0) (n := 16) (c' := 1) (s := 90) (r := some 271) hs31 (by decide)
  have hn36 := nn_step (k := 271) (t := 0) (n := 16) (c := 1) (s := 90) (r := some 271) hn32
  have tr37 := rr_step (k := 271) (t := 0) (n := 16) (c := 1) (s := 90) (r := some 271) tr33 (by decide) (by decide)
  have ts38 := ss_step (k := 271) (t := 0) (n := 16) (c' := 1) (s := 90) (r := some 271) ts34 (by decide)
  have hs39 := ss_step (k := 272) (t := 1) (n := 16) (c' := 1) (s := 91) (r := some 272) hs35 (by decide)
  have hn40 := nn_step (k := 272) (t := 1) (n := 16) (c := 1) (s := 91) (r := some 272) hn36
  have tr41 := rr_step (k := 272) (t := 1) (n := 16) (c := 1) (s := 91) (r := some 272) tr37 (by decide) (by decide)
  have ts42 := ss_step (k := 272) (t := 1) (n := 16) (c' := 1) (s := 91) (r := some 272) ts38 (by decide)
  have hs43 := ss_step (k := 273) (t := 0) (n := 180) (c' := 1) (s := 92) (r := some 273) hs39 (by decide)
  have hn44 := nn_step (k := 273) (t := 0) (n := 180) (c := 1) (s := 92) (r := some 273) hn40
  have tr45 := rr_step (k := 273) (t := 0) (n := 180) (c := 1) (s := 92) (r := some 273) tr41 (by decide) (by decide)
  have ts46 := ss_step (k := 273) (t := 0) (n := 180) (c' := 1) (s := 92) (r := some 273) ts42 (by decide)
  have hs47 := ss_step (k := 274) (t := 0) (n := 180) (c' := 1) (s := 93) (r := some 274) hs43 (by decide)
  have hn48 := nn_step (k := 274) (t := 0) (n := 180) (c := 1) (s := 93) (r := some 274) hn44
  have tr49 := rr_step (k := 274) (t := 0) (n := 180) (c := 1) (s := 93) (r := some 274) tr45 (by decide) (by decide)
  have ts50 := ss_step (k := 274) (t := 0) (n := 180) (c' := 1) (s := 93) (r := some 274) ts46 (by decide)
  exact ⟨hs47, hn48, tr49, ts50⟩
theorem ck_4 (d : Nat) (h : Hp_) (K : Option Value → Hp_ → Prop) (hs : h_sh h 1 = some (22, 131)) (hn : ∀ a, 260 ≤ a → a < 300 → h_sh h a = none) (k : AW (m_X12_init (d + 1) 100 288204) 75 279344 635 [(0, .ref 1)] [] (CC_4 h) K) : AW (m_X12_init (d + 1) 100 288204) 60 274874 506 [(0, .ref 1)] [] h K := by
  refine aw_aload_n (i := 0) rfl d_X12_init_506 0 rfl ?_
  refine aw_sipush (v := 300) d_X12_init_507 is_300 ?_
  refine aw_newa (t := 0) (atype := .int) 260 300 (by decide) rfl tw_51 (hn 260 (by decide) (by decide)) (by decide) xs0 (by decide +kernel) (by decide +kernel) (by decide +kernel) (show 60 + 1 ≤ 100 from by decide +kernel) (show 274874 + 300 ≤ 288204 from by decide +kernel) d_X12_init_510 ?_
  refine aw_putrF (k0 := 77) kc_12 (ss_n hs (by decide)) (Nat.le_of_ble_eq_true rfl) tw_1819 d_X12_init_512 rfl rfl rfl rfl ?_
  have hs1 := ss_step (k := 260) (t := 0) (n := 300) (c' := 1) (s := 77) (r := some 260) hs (by decide)
  have hn2 := nn_step (k := 260) (t := 0) (n := 300) (c := 1) (s := 77) (r := some 260) hn
  refine aw_aload_n (i := 0) rfl d_X12_init_515 0 rfl ?_
  refine aw_sipush (v := 2700) d_X12_init_516 is_2700 ?_
  refine aw_newa (t := 0) (atype := .int) 261 2700 (by decide) rfl tw_51 (hn2 261 (by decide) (by decide)) (by decide) xs0 (by decide +kernel) (by decide +kernel) (by decide +kernel) (show 61 + 1 ≤ 100 from by decide +kernel) (show 275174 + 2700 ≤ 288204 from by decide +kernel) d_X12_init_519 ?_
  refine aw_putrF (k0 := 78) kc_12 (ss_n hs1 (by decide)) (Nat.le_of_ble_eq_true rfl) tw_1820 d_X12_init_521 rfl rfl rfl rfl ?_
  have hs3 := ss_step (k := 261) (t := 0) (n := 2700) (c' := 1) (s := 78) (r := some 261) hs1 (by decide)
  have hn4 := nn_step (k := 261) (t := 0) (n := 2700) (c := 1) (s := 78) (r := some 261) hn2
  refine aw_aload_n (i := 0) rfl d_X12_init_524 0 rfl ?_
  refine aw_bipush (v := 30) d_X12_init_525 ib_30 ?_
  refine aw_newa (t := 0) (atype := .int) 262 30 (by decide) rfl tw_51 (hn4 262 (by decide) (by decide)) (by decide) xs0 (by decide +kernel) (by decide +kernel) (by decide +kernel) (show 62 + 1 ≤ 100 from by decide +kernel) (show 277874 + 30 ≤ 288204 from by decide +kernel) d_X12_init_527 ?_
  refine aw_putrF (k0 := 81) kc_12 (ss_n hs3 (by decide)) (Nat.le_of_ble_eq_true rfl) tw_1823 d_X12_init_529 rfl rfl rfl rfl ?_
  have hs5 := ss_step (k := 262) (t := 0) (n := 30) (c' := 1) (s := 81) (r := some 262) hs3 (by decide)
  have hn6 := nn_step (k := 262) (t := 0) (n := 30) (c := 1) (s := 81) (r := some 262) hn4
  refine aw_aload_n (i := 0) rfl d_X12_init_532 0 rfl ?_
  refine aw_bipush (v := 30) d_X12_init_533 ib_30 ?_
  refine aw_newa (t := 0) (atype := .int) 263 30 (by decide) rfl tw_51 (hn6 263 (by decide) (by decide)) (by decide) xs0 (by decide +kernel) (by decide +kernel) (by decide +kernel) (show 63 + 1 ≤ 100 from by decide +kernel) (show 277904 + 30 ≤ 288204 from by decide +kernel) d_X12_init_535 ?_
  refine aw_putrF (k0 := 82) kc_12 (ss_n hs5 (by decide)) (Nat.le_of_ble_eq_true rfl) tw_1824 d_X12_init_537 rfl rfl rfl rfl ?_
  have hs7 := ss_step (k := 263) (t := 0) (n := 30) (c' := 1) (s := 82) (r := some 263) hs5 (by decide)
  have hn8 := nn_step (k := 263) (t := 0) (n := 30) (c := 1) (s := 82) (r := some 263) hn6
  refine aw_aload_n (i := 0) rfl d_X12_init_540 0 rfl ?_
  refine aw_bipush (v := 10) d_X12_init_541 ib_10 ?_
  refine aw_newa (t := 0) (atype := .int) 264 10 (by decide) rfl tw_51 (hn8 264 (by decide) (by decide)) (by decide) xs0 (by decide +kernel) (by decide +kernel) (by decide +kernel) (show 64 + 1 ≤ 100 from by decide +kernel) (show 277934 + 10 ≤ 288204 from by decide +kernel) d_X12_init_543 ?_
  refine aw_putrF (k0 := 83) kc_12 (ss_n hs7 (by decide)) (Nat.le_of_ble_eq_true rfl) tw_1825 d_X12_init_545 rfl rfl rfl rfl ?_
  have hs9 := ss_step (k := 264) (t := 0) (n := 10) (c' := 1) (s := 83) (r := some 264) hs7 (by decide)
  have hn10 := nn_step (k := 264) (t := 0) (n := 10) (c := 1) (s := 83) (r := some 264) hn8
  refine aw_aload_n (i := 0) rfl d_X12_init_548 0 rfl ?_
  refine aw_bipush (v := 8) d_X12_init_549 ib_8 ?_
  refine aw_newa (t := 0) (atype := .int) 265 8 (by decide) rfl tw_51 (hn10 265 (by decide) (by decide)) (by decide) xs0 (by decide +kernel) (by decide +kernel) (by decide +kernel) (show 65 + 1 ≤ 100 from by decide +kernel) (show 277944 + 8 ≤ 288204 from by decide +kernel) d_X12_init_551 ?_
  refine aw_putrF (k0 := 84) kc_12 (ss_n hs9 (by decide)) (Nat.le_of_ble_eq_true rfl) tw_1826 d_X12_init_553 rfl rfl rfl rfl ?_
  have hs11 := ss_step (k := 265) (t := 0) (n := 8) (c' := 1) (s := 84) (r := some 265) hs9 (by decide)
  have hn12 := nn_step (k := 265) (t := 0) (n := 8) (c := 1) (s := 84) (r := some 265) hn10
  have tr13 := rr_of hs11
  have ts14 := sh_of hs11
  refine aw_aload_n (i := 0) rfl d_X12_init_556 0 rfl ?_
  refine aw_sipush (v := 200) d_X12_init_557 is_200 ?_
  refine aw_newa (t := 0) (atype := .int) 266 200 (by decide) rfl tw_51 (hn12 266 (by decide) (by decide)) (by decide) xs0 (by decide +kernel) (by decide +kernel) (by decide +kernel) (show 66 + 1 ≤ 100 from by decide +kernel) (show 277952 + 200 ≤ 288204 from by decide +kernel) d_X12_init_560 ?_
  refine aw_putrF (k0 := 85) kc_12 (ss_n hs11 (by decide)) (Nat.le_of_ble_eq_true rfl) tw_1827 d_X12_init_562 rfl rfl rfl rfl ?_
  have hs15 := ss_step (k := 266) (t := 0) (n := 200) (c' := 1) (s := 85) (r := some 266) hs11 (by decide)
  have hn16 := nn_step (k := 266) (t := 0) (n := 200) (c := 1) (s := 85) (r := some 266) hn12
  have tr17 := rr_step (k := 266) (t := 0) (n := 200) (c := 1) (s := 85) (r := some 266) tr13 (by decide) (by decide)
  have ts18 := ss_step (k := 266) (t := 0) (n := 200) (c' := 1) (s := 85) (r := some 266) ts14 (by decide)
  refine aw_aload_n (i := 0) rfl d_X12_init_565 0 rfl ?_
  refine aw_sipush (v := 200) d_X12_init_566 is_200 ?_
  refine aw_newa (t := 0) (atype := .int) 267 200 (by decide) rfl tw_51 (hn16 267 (by decide) (by decide)) (by decide) xs0 (by decide +kernel) (by decide +kernel) (by decide +kernel) (show 67 + 1 ≤ 100 from by decide +kernel) (show 278152 + 200 ≤ 288204 from by decide +kernel) d_X12_init_569 ?_
  refine aw_putrF (k0 := 86) kc_12 (ss_n hs15 (by decide)) (Nat.le_of_ble_eq_true rfl) tw_1828 d_X12_init_571 rfl rfl rfl rfl ?_
  have hs19 := ss_step (k := 267) (t := 0) (n := 200) (c' := 1) (s := 86) (r := some 267) hs15 (by decide)
  have hn20 := nn_step (k := 267) (t := 0) (n := 200) (c := 1) (s := 86) (r := some 267) hn16
  have tr21 := rr_step (k := 267) (t := 0) (n := 200) (c := 1) (s := 86) (r := some 267) tr17 (by decide) (by decide)
  have ts22 := ss_step (k := 267) (t := 0) (n := 200) (c' := 1) (s := 86) (r := some 267) ts18 (by decide)
  refine aw_aload_n (i := 0) rfl d_X12_init_574 0 rfl ?_
  refine aw_sipush (v := 200) d_X12_init_575 is_200 ?_
  refine aw_newa (t := 0) (atype := .int) 268 200 (by decide) rfl tw_51 (hn20 268 (by decide) (by decide)) (by decide) xs0 (by decide +kernel) (by decide +kernel) (by decide +kernel) (show 68 + 1 ≤ 100 from by decide +kernel) (show 278352 + 200 ≤ 288204 from by decide +kernel) d_X12_init_578 ?_
  refine aw_putrF (k0 := 87) kc_12 (ss_n hs19 (by decide)) (Nat.le_of_ble_eq_true rfl) tw_1829 d_X12_init_580 rfl rfl rfl rfl ?_
  have hs23 := ss_step (k := 268) (t := 0) (n := 200) (c' := 1) (s := 87) (r := some 268) hs19 (by decide)
  have hn24 := nn_step (k := 268) (t := 0) (n := 200) (c := 1) (s := 87) (r := some 268) hn20
  have tr25 := rr_step (k := 268) (t := 0) (n := 200) (c := 1) (s := 87) (r := some 268) tr21 (by decide) (by decide)
  have ts26 := ss_step (k := 268) (t := 0) (n := 200) (c' := 1) (s := 87) (r := some 268) ts22 (by decide)
  refine aw_aload_n (i := 0) rfl d_X12_init_583 0 rfl ?_
  refine aw_sipush (v := 200) d_X12_init_584 is_200 ?_
  refine aw_newa (t := 0) (atype := .int) 269 200 (by decide) rfl tw_51 (hn24 269 (by decide) (by decide)) (by decide) xs0 (by decide +kernel) (by decide +kernel) (by decide +kernel) (show 69 + 1 ≤ 100 from by decide +kernel) (show 278552 + 200 ≤ 288204 from by decide +kernel) d_X12_init_587 ?_
  refine aw_putrF (k0 := 88) kc_12 (ss_n hs23 (by decide)) (Nat.le_of_ble_eq_true rfl) tw_1830 d_X12_init_589 rfl rfl rfl rfl ?_
  have hs27 := ss_step (k := 269) (t := 0) (n := 200) (c' := 1) (s := 88) (r := some 269) hs23 (by decide)
  have hn28 := nn_step (k := 269) (t := 0) (n := 200) (c := 1) (s := 88) (r := some 269) hn24
  have tr29 := rr_step (k := 269) (t := 0) (n := 200) (c := 1) (s := 88) (r := some 269) tr25 (by decide) (by decide)
  have ts30 := ss_step (k := 269) (t := 0) (n := 200) (c' := 1) (s := 88) (r := some 269) ts26 (by decide)
  refine aw_aload_n (i := 0) rfl d_X12_init_592 0 rfl ?_
  refine aw_sipush (v := 200) d_X12_init_593 is_200 ?_
  refine aw_newa (t := 1) (atype := .boolean) 270 200 (by decide) rfl tw_252 (hn28 270 (by decide) (by decide)) (by decide) xs0 (by decide +kernel) (by decide +kernel) (by decide +kernel) (show 70 + 1 ≤ 100 from by decide +kernel) (show 278752 + 200 ≤ 288204 from by decide +kernel) d_X12_init_596 ?_
  refine aw_putrF (k0 := 89) kc_12 (ss_n hs27 (by decide)) (Nat.le_of_ble_eq_true rfl) tw_1831 d_X12_init_598 rfl rfl rfl rfl ?_
  have hs31 := ss_step (k := 270) (t := 1) (n := 200) (c' := 1) (s := 89) (r := some 270) hs27 (by decide)
  have hn32 := nn_step (k := 270) (t := 1) (n := 200) (c := 1) (s := 89) (r := some 270) hn28
  have tr33 := rr_step (k := 270) (t := 1) (n := 200) (c := 1) (s := 89) (r := some 270) tr29 (by decide) (by decide)
  have ts34 := ss_step (k := 270) (t := 1) (n := 200) (c' := 1) (s := 89) (r := some 270) ts30 (by decide)
  refine aw_aload_n (i := 0) rfl d_X12_init_601 0 rfl ?_
  refine aw_bipush (v := 16) d_X12_init_602 ib_16 ?_
  refine aw_newa (t := 0) (atype := .int) 271 16 (by decide) rfl tw_51 (hn32 271 (by decide) (by decide)) (by decide) xs0 (by decide +kernel) (by decide +kernel) (by decide +kernel) (show 71 + 1 ≤ 100 from by decide +kernel) (show 278952 + 16 ≤ 288204 from by decide +kernel) d_X12_init_604 ?_
  refine aw_putrF (k0 := 90) kc_12 (ss_n hs31 (by decide)) (Nat.le_of_ble_eq_true rfl) tw_1832 d_X12_init_606 rfl rfl rfl rfl ?_
  have hs35 := ss_step (k := 271) (t := 0) (n := 16) (c' := 1) (s := 90) (r := some 271) hs31 (by decide)
  have hn36 := nn_step (k := 271) (t := 0) (n := 16) (c := 1) (s := 90) (r := some 271) hn32
  have tr37 := rr_step (k := 271) (t := 0) (n := 16) (c := 1) (s := 90) (r := some 271) tr33 (by decide) (by decide)
  have ts38 := ss_step (k := 271) (t := 0) (n := 16) (c' := 1) (s := 90) (r := some 271) ts34 (by decide)
  refine aw_aload_n (i := 0) rfl d_X12_init_609 0 rfl ?_
  refine aw_bipush (v := 16) d_X12_init_610 ib_16 ?_
  refine aw_newa (t := 1) (atype := .boolean) 272 16 (by decide) rfl tw_252 (hn36 272 (by decide) (by decide)) (by decide) xs0 (by decide +kernel) (by decide +kernel) (by decide +kernel) (show 72 + 1 ≤ 100 from by decide +kernel) (show 278968 + 16 ≤ 288204 from by decide +kernel) d_X12_init_612 ?_
  refine aw_putrF (k0 := 91) kc_12 (ss_n hs35 (by decide)) (Nat.le_of_ble_eq_true rfl) tw_1833 d_X12_init_614 rfl rfl rfl rfl ?_
  have hs39 := ss_step (k := 272) (t := 1) (n := 16) (c' := 1) (s := 91) (r := some 272) hs35 (by decide)
  have hn40 := nn_step (k := 272) (t := 1) (n := 16) (c := 1) (s := 91) (r := some 272) hn36
  have tr41 := rr_step (k := 272) (t := 1) (n := 16) (c := 1) (s := 91) (r := some 272) tr37 (by decide) (by decide)
  have ts42 := ss_step (k := 272) (t := 1) (n := 16) (c' := 1) (s := 91) (r := some 272) ts38 (by decide)
  refine aw_aload_n (i := 0) rfl d_X12_init_617 0 rfl ?_
  refine aw_sipush (v := 180) d_X12_init_618 is_180 ?_
  refine aw_newa (t := 0) (atype := .int) 273 180 (by decide) rfl tw_51 (hn40 273 (by decide) (by decide)) (by decide) xs0 (by decide +kernel) (by decide +kernel) (by decide +kernel) (show 73 + 1 ≤ 100 from by decide +kernel) (show 278984 + 180 ≤ 288204 from by decide +kernel) d_X12_init_621 ?_
  refine aw_putrF (k0 := 92) kc_12 (ss_n hs39 (by decide)) (Nat.le_of_ble_eq_true rfl) tw_1834 d_X12_init_623 rfl rfl rfl rfl ?_
  have hs43 := ss_step (k := 273) (t := 0) (n := 180) (c' := 1) (s := 92) (r := some 273) hs39 (by decide)
  have hn44 := nn_step (k := 273) (t := 0) (n := 180) (c := 1) (s := 92) (r := some 273) hn40
  have tr45 := rr_step (k := 273) (t := 0) (n := 180) (c := 1) (s := 92) (r := some 273) tr41 (by decide) (by decide)
  have ts46 := ss_step (k := 273) (t := 0) (n := 180) (c' := 1) (s := 92) (r := some 273) ts42 (by decide)
  refine aw_aload_n (i := 0) rfl d_X12_init_626 0 rfl ?_
  refine aw_sipush (v := 180) d_X12_init_627 is_180 ?_
  refine aw_newa (t := 0) (atype := .int) 274 180 (by decide) rfl tw_51 (hn44 274 (by decide) (by decide)) (by decide) xs0 (by decide +kernel) (by decide +kernel) (by decide +kernel) (show 74 + 1 ≤ 100 from by decide +kernel) (show 279164 + 180 ≤ 288204 from by decide +kernel) d_X12_init_630 ?_
  refine aw_putrF (k0 := 93) kc_12 (ss_n hs43 (by decide)) (Nat.le_of_ble_eq_true rfl) tw_1835 d_X12_init_632 rfl rfl rfl rfl ?_
  have hs47 := ss_step (k := 274) (t := 0) (n := 180) (c' := 1) (s := 93) (r := some 274) hs43 (by decide)
  have hn48 := nn_step (k := 274) (t := 0) (n := 180) (c := 1) (s := 93) (r := some 274) hn44
  have tr49 := rr_step (k := 274) (t := 0) (n := 180) (c := 1) (s := 93) (r := some 274) tr45 (by decide) (by decide)
  have ts50 := ss_step (k := 274) (t := 0) (n := 180) (c' := 1) (s := 93) (r := some 274) ts46 (by decide)
  exact k
noncomputable def CC_5 (h : Hp_) : Hp_ := h_rm (h_nw (h_rm (h_nw (h_rm (h_nw (h_rm (h_nw (h_rm (h_nw (h_rm (h_nw (h_rm (h_nw (h_rm (h_nw (h_rm (h_nw (h_im (h_rm (h_nw (h_rm (h_nw (h_rm (h_nw (h_rm (h_nw (h_rm (h_nw h 275 0 180) 1 94 (some 275)) 276 0 30) 1 95 (some 276)) 277 0 30) 1 98 (some 277)) 278 0 8) 1 99 (some 278)) 279 0 8) 1 100 (some 279)) 1 103 3) 280 0 2304) 1 104 (some 280)) 281 0 8) 1 105 (some 281)) 282 0 8) 1 106 (some 282)) 283 0 8) 1 107 (some 283)) 284 0 5) 1 109 (some 284)) 285 0 5) 1 110 (some 285)) 286 0 5) 1 111 (some 286)) 287 0 5) 1 112 (some 287)) 288 0 4) 1 116 (some 288)
theorem cf_5 (h : Hp_) (hs : h_sh h 1 = some (22, 131)) (hn : ∀ a, 275 ≤ a → a < 300 → h_sh h a = none) (tr : h_r h 1 84 = some 265) (ts : h_sh h 265 = some (0, 8)) : h_sh (CC_5 h) 1 = some (22, 131) ∧ (∀ a, 289 ≤ a → a < 300 → h_sh (CC_5 h) a = none) ∧ h_r (CC_5 h) 1 84 = some 265 ∧ h_sh (CC_5 h) 265 = some (0, 8) := by
  have hs1 := ss_step (k := 275) (t := 0) (n := 180) (c' := 1) (s := 94) (r := some 275) hs (by decide)
  have hn2 := nn_step (k := 275) (t := 0) (n := 180) (c := 1) (s := 94) (r := some 275) hn
  have tr3 := rr_step (k := 275) (t := 0) (n := 180) (c := 1) (s := 94) (r := some 275) tr (by decide) (by decide)
  have ts4 := ss_step (k := 275) (t := 0) (n := 180) (c' := 1) (s := 94) (r := some 275) ts (by decide)
  have hs5 := ss_step (k := 276) (t := 0) (n := 30) (c' := 1) (s := 95) (r := some 276) hs1 (by decide)
  have hn6 := nn_step (k := 276) (t := 0) (n := 30) (c := 1) (s := 95) (r := some 276) hn2
  have tr7 := rr_step (k := 276) (t := 0) (n := 30) (c := 1) (s := 95) (r := some 276) tr3 (by decide) (by decide)
  have ts8 := ss_step (k := 276) (t := 0) (n := 30) (c' := 1) (s := 95) (r := some 276) ts4 (by decide)
  have hs9 := ss_step (k := 277) (t := 0) (n := 30) (c' := 1) (s := 98) (r := some 277) hs5 (by decide)
  have hn10 := nn_step (k := 277) (t := 0) (n := 30) (c := 1) (s := 98) (r := some 277) hn6
  have tr11 := rr_step (k := 277) (t := 0) (n := 30) (c := 1) (s := 98) (r := some 277) tr7 (by decide) (by decide)
  have ts12 := ss_step (k := 277) (t := 0) (n := 30) (c' := 1) (s := 98) (r := some 277) ts8 (by decide)
  have hs13 := ss_step (k := 278) (t := 0) (n := 8) (c' := 1) (s := 99) (r := some 278) hs9 (by decide)
  have hn14 := nn_step (k := 278) (t := 0) (n := 8) (c := 1) (s := 99) (r := some 278) hn10
  have tr15 := rr_step (k := 278) (t := 0) (n := 8) (c := 1) (s := 99) (r := some 278) tr11 (by decide) (by decide)
  have ts16 := ss_step (k := 278) (t := 0) (n := 8) (c' := 1) (s := 99) (r := some 278) ts12 (by decide)
  have hs17 := ss_step (k := 279) (t := 0) (n := 8) (c' := 1) (s := 100) (r := some 279) hs13 (by decide)
  have hn18 := nn_step (k := 279) (t := 0) (n := 8) (c := 1) (s := 100) (r := some 279) hn14
  have tr19 := rr_step (k := 279) (t := 0) (n := 8) (c := 1) (s := 100) (r := some 279) tr15 (by decide) (by decide)
  have ts20 := ss_step (k := 279) (t := 0) (n := 8) (c' := 1) (s := 100) (r := some 279) ts16 (by decide)
  have hs21 := ss_im (a := 1) (k := 103) (x := 3) hs17
  have hn22 := nn_im (b := 1) (k := 103) (x := 3) hn18
  have tr23 := rr_im (a := 1) (k := 103) (x := 3) tr19
  have ts24 := ss_im (a := 1) (k := 103) (x := 3) ts20
  have hs25 := ss_step (k := 280) (t := 0) (n := 2304) (c' := 1) (s := 104) (r := some 280) hs21 (by decide)
  have hn26 := nn_step (k := 280) (t := 0) (n := 2304) (c := 1) (s := 104) (r := some 280) hn22
  have tr27 := rr_step (k := 280) (t := 0) (n := 2304) (c := 1) (s := 104) (r := some 280) tr23 (by decide) (by decide)
  have ts28 := ss_step (k := 280) (t := 0) (n := 2304) (c' := 1) (s := 104) (r := some 280) ts24 (by decide)
  have hs29 := ss_step (k := 281) (t := 0) (n := 8) (c' := 1) (s := 105) (r := some 281) hs25 (by decide)
  have hn30 := nn_step (k := 281) (t := 0) (n := 8) (c := 1) (s := 105) (r := some 281) hn26
  have tr31 := rr_step (k := 281) (t := 0) (n := 8) (c := 1) (s := 105) (r := some 281) tr27 (by decide) (by decide)
  have ts32 := ss_step (k := 281) (t := 0) (n := 8) (c' := 1) (s := 105) (r := some 281) ts28 (by decide)
  have hs33 := ss_step (k := 282) (t := 0) (n := 8) (c' := 1) (s := 106) (r := some 282) hs29 (by decide)
  have hn34 := nn_step (k := 282) (t := 0) (n := 8) (c := 1) (s := 106) (r := some 282) hn30
  have tr35 := rr_step (k := 282) (t := 0) (n := 8) (c := 1) (s := 106) (r := some 282) tr31 (by decide) (by decide)
  have ts36 := ss_step (k := 282) (t := 0) (n := 8) (c' := 1) (s := 106) (r := some 282) ts32 (by decide)
  have hs37 := ss_step (k := 283) (t := 0) (n := 8) (c' := 1) (s := 107) (r := some 283) hs33 (by decide)
  have hn38 := nn_step (k := 283) (t := 0) (n := 8) (c := 1) (s := 107) (r := some 283) hn34
  have tr39 := rr_step (k := 283) (t := 0) (n := 8) (c := 1) (s := 107) (r := some 283) tr35 (by decide) (by decide)
  have ts40 := ss_step (k := 283) (t := 0) (n := 8) (c' := 1) (s := 107) (r := some 283) ts36 (by decide)
  have hs41 := ss_step (k := 284) (t := 0) (n := 5) (c' := 1) (s := 109) (r := some 284) hs37 (by decide)
  have hn42 := nn_step (k := 284) (t := 0) (n := 5) (c := 1) (s := 109) (r := some 284) hn38
  have tr43 := rr_step (k := 284) (t := 0) (n := 5) (c := 1) (s := 109) (r := some 284) tr39 (by decide) (by decide)
  have ts44 := ss_step (k := 284) (t := 0) (n := 5) (c' := 1) (s := 109) (r := some 284) ts40 (by decide)
  have hs45 := ss_step (k := 285) (t := 0) (n := 5) (c' := 1) (s := 110) (r := some 285) hs41 (by decide)
  have hn46 := nn_step (k := 285) (t := 0) (n := 5) (c := 1) (s := 110) (r := some 285) hn42
  have tr47 := rr_step (k := 285) (t := 0) (n := 5) (c := 1) (s := 110) (r := some 285) tr43 (by decide) (by decide)
  have ts48 := ss_step (k := 285) (t := 0) (n := 5) (c' := 1) (s := 110) (r := some 285) ts44 (by decide)
  have hs49 := ss_step (k := 286) (t := 0) (n := 5) (c' := 1) (s := 111) (r := some 286) hs45 (by decide)
  have hn50 := nn_step (k := 286) (t := 0) (n := 5) (c := 1) (s := 111) (r := some 286) hn46
  have tr51 := rr_step (k := 286) (t := 0) (n := 5) (c := 1) (s := 111) (r := some 286) tr47 (by decide) (by decide)
  have ts52 := ss_step (k := 286) (t := 0) (n := 5) (c' := 1) (s := 111) (r := some 286) ts48 (by decide)
  have hs53 := ss_step (k := 287) (t := 0) (n := 5) (c' := 1) (s := 112) (r := some 287) hs49 (by decide)
  have hn54 := nn_step (k := 287) (t := 0) (n := 5) (c := 1) (s := 112) (r := some 287) hn50
  have tr55 := rr_step (k := 287) (t := 0) (n := 5) (c := 1) (s := 112) (r := some 287) tr51 (by decide) (by decide)
  have ts56 := ss_step (k := 287) (t := 0) (n := 5) (c' := 1) (s := 112) (r := some 287) ts52 (by decide)
  have hs57 := ss_step (k := 288) (t := 0) (n := 4) (c' := 1) (s := 116) (r := some 288) hs53 (by decide)
  have hn58 := nn_step (k := 288) (t := 0) (n := 4) (c := 1) (s := 116) (r := some 288) hn54
  have tr59 := rr_step (k := 288) (t := 0) (n := 4) (c := 1) (s := 116) (r := some 288) tr55 (by decide) (by decide)
  have ts60 := ss_step (k := 288) (t := 0) (n := 4) (c' := 1) (s := 116) (r := some 288) ts56 (by decide)
  exact ⟨hs57, hn58, tr59, ts60⟩
theorem ck_5 (d : Nat) (h : Hp_) (K : Option Value → Hp_ → Prop) (hs : h_sh h 1 = some (22, 131)) (hn : ∀ a, 275 ≤ a → a < 300 → h_sh h a = none) (tr : h_r h 1 84 = some 265) (ts : h_sh h 265 = some (0, 8)) (k : AW (m_X12_init (d + 1) 100 288204) 89 281952 749 [(0, .ref 1)] [] (CC_5 h) K) : AW (m_X12_init (d + 1) 100 288204) 75 279344 635 [(0, .ref 1)] [] h K := by
  refine aw_aload_n (i := 0) rfl d_X12_init_635 0 rfl ?_
  refine aw_sipush (v := 180) d_X12_init_636 is_180 ?_
  refine aw_newa (t := 0) (atype := .int) 275 180 (by decide) rfl tw_51 (hn 275 (by decide) (by decide)) (by decide) xs0 (by decide +kernel) (by decide +kernel) (by decide +kernel) (show 75 + 1 ≤ 100 from by decide +kernel) (show 279344 + 180 ≤ 288204 from by decide +kernel) d_X12_init_639 ?_
  refine aw_putrF (k0 := 94) kc_12 (ss_n hs (by decide)) (Nat.le_of_ble_eq_true rfl) tw_1836 d_X12_init_641 rfl rfl rfl rfl ?_
  have hs1 := ss_step (k := 275) (t := 0) (n := 180) (c' := 1) (s := 94) (r := some 275) hs (by decide)
  have hn2 := nn_step (k := 275) (t := 0) (n := 180) (c := 1) (s := 94) (r := some 275) hn
  have tr3 := rr_step (k := 275) (t := 0) (n := 180) (c := 1) (s := 94) (r := some 275) tr (by decide) (by decide)
  have ts4 := ss_step (k := 275) (t := 0) (n := 180) (c' := 1) (s := 94) (r := some 275) ts (by decide)
  refine aw_aload_n (i := 0) rfl d_X12_init_644 0 rfl ?_
  refine aw_bipush (v := 30) d_X12_init_645 ib_30 ?_
  refine aw_newa (t := 0) (atype := .int) 276 30 (by decide) rfl tw_51 (hn2 276 (by decide) (by decide)) (by decide) xs0 (by decide +kernel) (by decide +kernel) (by decide +kernel) (show 76 + 1 ≤ 100 from by decide +kernel) (show 279524 + 30 ≤ 288204 from by decide +kernel) d_X12_init_647 ?_
  refine aw_putrF (k0 := 95) kc_12 (ss_n hs1 (by decide)) (Nat.le_of_ble_eq_true rfl) tw_1837 d_X12_init_649 rfl rfl rfl rfl ?_
  have hs5 := ss_step (k := 276) (t := 0) (n := 30) (c' := 1) (s := 95) (r := some 276) hs1 (by decide)
  have hn6 := nn_step (k := 276) (t := 0) (n := 30) (c := 1) (s := 95) (r := some 276) hn2
  have tr7 := rr_step (k := 276) (t := 0) (n := 30) (c := 1) (s := 95) (r := some 276) tr3 (by decide) (by decide)
  have ts8 := ss_step (k := 276) (t := 0) (n := 30) (c' := 1) (s := 95) (r := some 276) ts4 (by decide)
  refine aw_aload_n (i := 0) rfl d_X12_init_652 0 rfl ?_
  refine aw_bipush (v := 30) d_X12_init_653 ib_30 ?_
  refine aw_newa (t := 0) (atype := .int) 277 30 (by decide) rfl tw_51 (hn6 277 (by decide) (by decide)) (by decide) xs0 (by decide +kernel) (by decide +kernel) (by decide +kernel) (show 77 + 1 ≤ 100 from by decide +kernel) (show 279554 + 30 ≤ 288204 from by decide +kernel) d_X12_init_655 ?_
  refine aw_putrF (k0 := 98) kc_12 (ss_n hs5 (by decide)) (Nat.le_of_ble_eq_true rfl) tw_1840 d_X12_init_657 rfl rfl rfl rfl ?_
  have hs9 := ss_step (k := 277) (t := 0) (n := 30) (c' := 1) (s := 98) (r := some 277) hs5 (by decide)
  have hn10 := nn_step (k := 277) (t := 0) (n := 30) (c := 1) (s := 98) (r := some 277) hn6
  have tr11 := rr_step (k := 277) (t := 0) (n := 30) (c := 1) (s := 98) (r := some 277) tr7 (by decide) (by decide)
  have ts12 := ss_step (k := 277) (t := 0) (n := 30) (c' := 1) (s := 98) (r := some 277) ts8 (by decide)
  refine aw_aload_n (i := 0) rfl d_X12_init_660 0 rfl ?_
  refine aw_bipush (v := 8) d_X12_init_661 ib_8 ?_
  refine aw_newa (t := 0) (atype := .int) 278 8 (by decide) rfl tw_51 (hn10 278 (by decide) (by decide)) (by decide) xs0 (by decide +kernel) (by decide +kernel) (by decide +kernel) (show 78 + 1 ≤ 100 from by decide +kernel) (show 279584 + 8 ≤ 288204 from by decide +kernel) d_X12_init_663 ?_
  refine aw_putrF (k0 := 99) kc_12 (ss_n hs9 (by decide)) (Nat.le_of_ble_eq_true rfl) tw_1841 d_X12_init_665 rfl rfl rfl rfl ?_
  have hs13 := ss_step (k := 278) (t := 0) (n := 8) (c' := 1) (s := 99) (r := some 278) hs9 (by decide)
  have hn14 := nn_step (k := 278) (t := 0) (n := 8) (c := 1) (s := 99) (r := some 278) hn10
  have tr15 := rr_step (k := 278) (t := 0) (n := 8) (c := 1) (s := 99) (r := some 278) tr11 (by decide) (by decide)
  have ts16 := ss_step (k := 278) (t := 0) (n := 8) (c' := 1) (s := 99) (r := some 278) ts12 (by decide)
  refine aw_aload_n (i := 0) rfl d_X12_init_668 0 rfl ?_
  refine aw_bipush (v := 8) d_X12_init_669 ib_8 ?_
  refine aw_newa (t := 0) (atype := .int) 279 8 (by decide) rfl tw_51 (hn14 279 (by decide) (by decide)) (by decide) xs0 (by decide +kernel) (by decide +kernel) (by decide +kernel) (show 79 + 1 ≤ 100 from by decide +kernel) (show 279592 + 8 ≤ 288204 from by decide +kernel) d_X12_init_671 ?_
  refine aw_putrF (k0 := 100) kc_12 (ss_n hs13 (by decide)) (Nat.le_of_ble_eq_true rfl) tw_1842 d_X12_init_673 rfl rfl rfl rfl ?_
  have hs17 := ss_step (k := 279) (t := 0) (n := 8) (c' := 1) (s := 100) (r := some 279) hs13 (by decide)
  have hn18 := nn_step (k := 279) (t := 0) (n := 8) (c := 1) (s := 100) (r := some 279) hn14
  have tr19 := rr_step (k := 279) (t := 0) (n := 8) (c := 1) (s := 100) (r := some 279) tr15 (by decide) (by decide)
  have ts20 := ss_step (k := 279) (t := 0) (n := 8) (c' := 1) (s := 100) (r := some 279) ts16 (by decide)
  refine aw_aload_n (i := 0) rfl d_X12_init_676 0 rfl ?_
  refine aw_iconst (v := 3) d_X12_init_677 ic_3 ?_
  refine aw_puti (k0 := 103) kc_12 hs17 (Nat.le_of_ble_eq_true rfl) tw_1845 d_X12_init_678 rfl rfl nf_i ?_
  have hs21 := ss_im (a := 1) (k := 103) (x := 3) hs17
  have hn22 := nn_im (b := 1) (k := 103) (x := 3) hn18
  have tr23 := rr_im (a := 1) (k := 103) (x := 3) tr19
  have ts24 := ss_im (a := 1) (k := 103) (x := 3) ts20
  refine aw_aload_n (i := 0) rfl d_X12_init_681 0 rfl ?_
  refine aw_sipush (v := 2304) d_X12_init_682 is_2304 ?_
  refine aw_newa (t := 0) (atype := .int) 280 2304 (by decide) rfl tw_51 (hn22 280 (by decide) (by decide)) (by decide) xs0 (by decide +kernel) (by decide +kernel) (by decide +kernel) (show 80 + 1 ≤ 100 from by decide +kernel) (show 279600 + 2304 ≤ 288204 from by decide +kernel) d_X12_init_685 ?_
  refine aw_putrF (k0 := 104) kc_12 (ss_n hs21 (by decide)) (Nat.le_of_ble_eq_true rfl) tw_1846 d_X12_init_687 rfl rfl rfl rfl ?_
  have hs25 := ss_step (k := 280) (t := 0) (n := 2304) (c' := 1) (s := 104) (r := some 280) hs21 (by decide)
  have hn26 := nn_step (k := 280) (t := 0) (n := 2304) (c := 1) (s := 104) (r := some 280) hn22
  have tr27 := rr_step (k := 280) (t := 0) (n := 2304) (c := 1) (s := 104) (r := some 280) tr23 (by decide) (by decide)
  have ts28 := ss_step (k := 280) (t := 0) (n := 2304) (c' := 1) (s := 104) (r := some 280) ts24 (by decide)
  refine aw_aload_n (i := 0) rfl d_X12_init_690 0 rfl ?_
  refine aw_bipush (v := 8) d_X12_init_691 ib_8 ?_
  refine aw_newa (t := 0) (atype := .int) 281 8 (by decide) rfl tw_51 (hn26 281 (by decide) (by decide)) (by decide) xs0 (by decide +kernel) (by decide +kernel) (by decide +kernel) (show 81 + 1 ≤ 100 from by decide +kernel) (show 281904 + 8 ≤ 288204 from by decide +kernel) d_X12_init_693 ?_
  refine aw_putrF (k0 := 105) kc_12 (ss_n hs25 (by decide)) (Nat.le_of_ble_eq_true rfl) tw_1847 d_X12_init_695 rfl rfl rfl rfl ?_
  have hs29 := ss_step (k := 281) (t := 0) (n := 8) (c' := 1) (s := 105) (r := some 281) hs25 (by decide)
  have hn30 := nn_step (k := 281) (t := 0) (n := 8) (c := 1) (s := 105) (r := some 281) hn26
  have tr31 := rr_step (k := 281) (t := 0) (n := 8) (c := 1) (s := 105) (r := some 281) tr27 (by decide) (by decide)
  have ts32 := ss_step (k := 281) (t := 0) (n := 8) (c' := 1) (s := 105) (r := some 281) ts28 (by decide)
  refine aw_aload_n (i := 0) rfl d_X12_init_698 0 rfl ?_
  refine aw_bipush (v := 8) d_X12_init_699 ib_8 ?_
  refine aw_newa (t := 0) (atype := .int) 282 8 (by decide) rfl tw_51 (hn30 282 (by decide) (by decide)) (by decide) xs0 (by decide +kernel) (by decide +kernel) (by decide +kernel) (show 82 + 1 ≤ 100 from by decide +kernel) (show 281912 + 8 ≤ 288204 from by decide +kernel) d_X12_init_701 ?_
  refine aw_putrF (k0 := 106) kc_12 (ss_n hs29 (by decide)) (Nat.le_of_ble_eq_true rfl) tw_1848 d_X12_init_703 rfl rfl rfl rfl ?_
  have hs33 := ss_step (k := 282) (t := 0) (n := 8) (c' := 1) (s := 106) (r := some 282) hs29 (by decide)
  have hn34 := nn_step (k := 282) (t := 0) (n := 8) (c := 1) (s := 106) (r := some 282) hn30
  have tr35 := rr_step (k := 282) (t := 0) (n := 8) (c := 1) (s := 106) (r := some 282) tr31 (by decide) (by decide)
  have ts36 := ss_step (k := 282) (t := 0) (n := 8) (c' := 1) (s := 106) (r := some 282) ts32 (by decide)
  refine aw_aload_n (i := 0) rfl d_X12_init_706 0 rfl ?_
  refine aw_bipush (v := 8) d_X12_init_707 ib_8 ?_
  refine aw_newa (t := 0) (atype := .int) 283 8 (by decide) rfl tw_51 (hn34 283 (by decide) (by decide)) (by decide) xs0 (by decide +kernel) (by decide +kernel) (by decide +kernel) (show 83 + 1 ≤ 100 from by decide +kernel) (show 281920 + 8 ≤ 288204 from by decide +kernel) d_X12_init_709 ?_
  refine aw_putrF (k0 := 107) kc_12 (ss_n hs33 (by decide)) (Nat.le_of_ble_eq_true rfl) tw_1849 d_X12_init_711 rfl rfl rfl rfl ?_
  have hs37 := ss_step (k := 283) (t := 0) (n := 8) (c' := 1) (s := 107) (r := some 283) hs33 (by decide)
  have hn38 := nn_step (k := 283) (t := 0) (n := 8) (c := 1) (s := 107) (r := some 283) hn34
  have tr39 := rr_step (k := 283) (t := 0) (n := 8) (c := 1) (s := 107) (r := some 283) tr35 (by decide) (by decide)
  have ts40 := ss_step (k := 283) (t := 0) (n := 8) (c' := 1) (s := 107) (r := some 283) ts36 (by decide)
  refine aw_aload_n (i := 0) rfl d_X12_init_714 0 rfl ?_
  refine aw_iconst (v := 5) d_X12_init_715 ic_5 ?_
  refine aw_newa (t := 0) (atype := .int) 284 5 (by decide) rfl tw_51 (hn38 284 (by decide) (by decide)) (by decide) xs0 (by decide +kernel) (by decide +kernel) (by decide +kernel) (show 84 + 1 ≤ 100 from by decide +kernel) (show 281928 + 5 ≤ 288204 from by decide +kernel) d_X12_init_716 ?_
  refine aw_putrF (k0 := 109) kc_12 (ss_n hs37 (by decide)) (Nat.le_of_ble_eq_true rfl) tw_1851 d_X12_init_718 rfl rfl rfl rfl ?_
  have hs41 := ss_step (k := 284) (t := 0) (n := 5) (c' := 1) (s := 109) (r := some 284) hs37 (by decide)
  have hn42 := nn_step (k := 284) (t := 0) (n := 5) (c := 1) (s := 109) (r := some 284) hn38
  have tr43 := rr_step (k := 284) (t := 0) (n := 5) (c := 1) (s := 109) (r := some 284) tr39 (by decide) (by decide)
  have ts44 := ss_step (k := 284) (t := 0) (n := 5) (c' := 1) (s := 109) (r := some 284) ts40 (by decide)
  refine aw_aload_n (i := 0) rfl d_X12_init_721 0 rfl ?_
  refine aw_iconst (v := 5) d_X12_init_722 ic_5 ?_
  refine aw_newa (t := 0) (atype := .int) 285 5 (by decide) rfl tw_51 (hn42 285 (by decide) (by decide)) (by decide) xs0 (by decide +kernel) (by decide +kernel) (by decide +kernel) (show 85 + 1 ≤ 100 from by decide +kernel) (show 281933 + 5 ≤ 288204 from by decide +kernel) d_X12_init_723 ?_
  refine aw_putrF (k0 := 110) kc_12 (ss_n hs41 (by decide)) (Nat.le_of_ble_eq_true rfl) tw_1852 d_X12_init_725 rfl rfl rfl rfl ?_
  have hs45 := ss_step (k := 285) (t := 0) (n := 5) (c' := 1) (s := 110) (r := some 285) hs41 (by decide)
  have hn46 := nn_step (k := 285) (t := 0) (n := 5) (c := 1) (s := 110) (r := some 285) hn42
  have tr47 := rr_step (k := 285) (t := 0) (n := 5) (c := 1) (s := 110) (r := some 285) tr43 (by decide) (by decide)
  have ts48 := ss_step (k := 285) (t := 0) (n := 5) (c' := 1) (s := 110) (r := some 285) ts44 (by decide)
  refine aw_aload_n (i := 0) rfl d_X12_init_728 0 rfl ?_
  refine aw_iconst (v := 5) d_X12_init_729 ic_5 ?_
  refine aw_newa (t := 0) (atype := .int) 286 5 (by decide) rfl tw_51 (hn46 286 (by decide) (by decide)) (by decide) xs0 (by decide +kernel) (by decide +kernel) (by decide +kernel) (show 86 + 1 ≤ 100 from by decide +kernel) (show 281938 + 5 ≤ 288204 from by decide +kernel) d_X12_init_730 ?_
  refine aw_putrF (k0 := 111) kc_12 (ss_n hs45 (by decide)) (Nat.le_of_ble_eq_true rfl) tw_1853 d_X12_init_732 rfl rfl rfl rfl ?_
  have hs49 := ss_step (k := 286) (t := 0) (n := 5) (c' := 1) (s := 111) (r := some 286) hs45 (by decide)
  have hn50 := nn_step (k := 286) (t := 0) (n := 5) (c := 1) (s := 111) (r := some 286) hn46
  have tr51 := rr_step (k := 286) (t := 0) (n := 5) (c := 1) (s := 111) (r := some 286) tr47 (by decide) (by decide)
  have ts52 := ss_step (k := 286) (t := 0) (n := 5) (c' := 1) (s := 111) (r := some 286) ts48 (by decide)
  refine aw_aload_n (i := 0) rfl d_X12_init_735 0 rfl ?_
  refine aw_iconst (v := 5) d_X12_init_736 ic_5 ?_
  refine aw_newa (t := 0) (atype := .int) 287 5 (by decide) rfl tw_51 (hn50 287 (by decide) (by decide)) (by decide) xs0 (by decide +kernel) (by decide +kernel) (by decide +kernel) (show 87 + 1 ≤ 100 from by decide +kernel) (show 281943 + 5 ≤ 288204 from by decide +kernel) d_X12_init_737 ?_
  refine aw_putrF (k0 := 112) kc_12 (ss_n hs49 (by decide)) (Nat.le_of_ble_eq_true rfl) tw_1854 d_X12_init_739 rfl rfl rfl rfl ?_
  have hs53 := ss_step (k := 287) (t := 0) (n := 5) (c' := 1) (s := 112) (r := some 287) hs49 (by decide)
  have hn54 := nn_step (k := 287) (t := 0) (n := 5) (c := 1) (s := 112) (r := some 287) hn50
  have tr55 := rr_step (k := 287) (t := 0) (n := 5) (c := 1) (s := 112) (r := some 287) tr51 (by decide) (by decide)
  have ts56 := ss_step (k := 287) (t := 0) (n := 5) (c' := 1) (s := 112) (r := some 287) ts52 (by decide)
  refine aw_aload_n (i := 0) rfl d_X12_init_742 0 rfl ?_
  refine aw_iconst (v := 4) d_X12_init_743 ic_4 ?_
  refine aw_newa (t := 0) (atype := .int) 288 4 (by decide) rfl tw_51 (hn54 288 (by decide) (by decide)) (by decide) xs0 (by decide +kernel) (by decide +kernel) (by decide +kernel) (show 88 + 1 ≤ 100 from by decide +kernel) (show 281948 + 4 ≤ 288204 from by decide +kernel) d_X12_init_744 ?_
  refine aw_putrF (k0 := 116) kc_12 (ss_n hs53 (by decide)) (Nat.le_of_ble_eq_true rfl) tw_1858 d_X12_init_746 rfl rfl rfl rfl ?_
  have hs57 := ss_step (k := 288) (t := 0) (n := 4) (c' := 1) (s := 116) (r := some 288) hs53 (by decide)
  have hn58 := nn_step (k := 288) (t := 0) (n := 4) (c := 1) (s := 116) (r := some 288) hn54
  have tr59 := rr_step (k := 288) (t := 0) (n := 4) (c := 1) (s := 116) (r := some 288) tr55 (by decide) (by decide)
  have ts60 := ss_step (k := 288) (t := 0) (n := 4) (c' := 1) (s := 116) (r := some 288) ts56 (by decide)
  exact k
noncomputable def CC_6 (h : Hp_) : Hp_ := h_im (h_rm (h_nw (h_rm (h_nw (h_rm (h_nw (h_rm (h_nw (h_rm (h_nw (h_rm (h_nw (h_rm (h_nw (h_rm (h_nw (h_rm (h_nw (h_rm (h_nw (h_rm (h_nw h 289 0 4) 1 117 (some 289)) 290 0 4) 1 118 (some 290)) 291 0 3328) 1 120 (some 291)) 292 0 48) 1 121 (some 292)) 293 0 372) 1 122 (some 293)) 294 0 600) 1 123 (some 294)) 295 0 600) 1 124 (some 295)) 296 0 600) 1 125 (some 296)) 297 0 600) 1 126 (some 297)) 298 0 48) 1 128 (some 298)) 299 1 48) 1 129 (some 299)) 1 130 3
theorem cf_6 (h : Hp_) (hs : h_sh h 1 = some (22, 131)) (hn : ∀ a, 289 ≤ a → a < 300 → h_sh h a = none) (tr : h_r h 1 84 = some 265) (ts : h_sh h 265 = some (0, 8)) : h_sh (CC_6 h) 1 = some (22, 131) ∧ (∀ a, 300 ≤ a → a < 300 → h_sh (CC_6 h) a = none) ∧ h_r (CC_6 h) 1 84 = some 265 ∧ h_sh (CC_6 h) 265 = some (0, 8) := by
  have hs1 := ss_step (k := 289) (t := 0) (n := 4) (c' := 1) (s := 117) (r := some 289) hs (by decide)
  have hn2 := nn_step (k := 289) (t := 0) (n := 4) (c := 1) (s := 117) (r := some 289) hn
  have tr3 := rr_step (k := 289) (t := 0) (n := 4) (c := 1) (s := 117) (r := some 289) tr (by decide) (by decide)
  have ts4 := ss_step (k := 289) (t := 0) (n := 4) (c' := 1) (s := 117) (r := some 289) ts (by decide)
  have hs5 := ss_step (k := 290) (t := 0) (n := 4) (c' := 1) (s := 118) (r := some 290) hs1 (by decide)
  have hn6 := nn_step (k := 290) (t := 0) (n := 4) (c := 1) (s := 118) (r := some 290) hn2
  have tr7 := rr_step (k := 290) (t := 0) (n := 4) (c := 1) (s := 118) (r := some 290) tr3 (by decide) (by decide)
  have ts8 := ss_step (k := 290) (t := 0) (n := 4) (c' := 1) (s := 118) (r := some 290) ts4 (by decide)
  have hs9 := ss_step (k := 291) (t := 0) (n := 3328) (c' := 1) (s := 120) (r := some 291) hs5 (by decide)
  have hn10 := nn_step (k := 291) (t := 0) (n := 3328) (c := 1) (s := 120) (r := some 291) hn6
  have tr11 := rr_step (k := 291) (t := 0) (n := 3328) (c := 1) (s := 120) (r := some 291) tr7 (by decide) (by decide)
  have ts12 := ss_step (k := 291) (t := 0) (n := 3328) (c' := 1) (s := 120) (r := some 291) ts8 (by decide)
  have hs13 := ss_step (k := 292) (t := 0) (n := 48) (c' := 1) (s := 121) (r := some 292) hs9 (by decide)
  have hn14 := nn_step (k := 292) (t := 0) (n := 48) (c := 1) (s := 121) (r := some 292) hn10
  have tr15 := rr_step (k := 292) (t := 0) (n := 48) (c := 1) (s := 121) (r := some 292) tr11 (by decide) (by decide)
  have ts16 := ss_step (k := 292) (t := 0) (n := 48) (c' := 1) (s := 121) (r := some 292) ts12 (by decide)
  have hs17 := ss_step (k := 293) (t := 0) (n := 372) (c' := 1) (s := 122) (r := some 293) hs13 (by decide)
  have hn18 := nn_step (k := 293) (t := 0) (n := 372) (c := 1) (s := 122) (r := some 293) hn14
  have tr19 := rr_step (k := 293) (t := 0) (n := 372) (c := 1) (s := 122) (r := some 293) tr15 (by decide) (by decide)
  have ts20 := ss_step (k := 293) (t := 0) (n := 372) (c' := 1) (s := 122) (r := some 293) ts16 (by decide)
  have hs21 := ss_step (k := 294) (t := 0) (n := 600) (c' := 1) (s := 123) (r := some 294) hs17 (by decide)
  have hn22 := nn_step (k := 294) (t := 0) (n := 600) (c := 1) (s := 123) (r := some 294) hn18
  have tr23 := rr_step (k := 294) (t := 0) (n := 600) (c := 1) (s := 123) (r := some 294) tr19 (by decide) (by decide)
  have ts24 := ss_step (k := 294) (t := 0) (n := 600) (c' := 1) (s := 123) (r := some 294) ts20 (by decide)
  have hs25 := ss_step (k := 295) (t := 0) (n := 600) (c' := 1) (s := 124) (r := some 295) hs21 (by decide)
  have hn26 := nn_step (k := 295) (t := 0) (n := 600) (c := 1) (s := 124) (r := some 295) hn22
  have tr27 := rr_step (k := 295) (t := 0) (n := 600) (c := 1) (s := 124) (r := some 295) tr23 (by decide) (by decide)
  have ts28 := ss_step (k := 295) (t := 0) (n := 600) (c' := 1) (s := 124) (r := some 295) ts24 (by decide)
  have hs29 := ss_step (k := 296) (t := 0) (n := 600) (c' := 1) (s := 125) (r := some 296) hs25 (by decide)
  have hn30 := nn_step (k := 296) (t := 0) (n := 600) (c := 1) (s := 125) (r := some 296) hn26
  have tr31 := rr_step (k := 296) (t := 0) (n := 600) (c := 1) (s := 125) (r := some 296) tr27 (by decide) (by decide)
  have ts32 := ss_step (k := 296) (t := 0) (n := 600) (c' := 1) (s := 125) (r := some 296) ts28 (by decide)
  have hs33 := ss_step (k := 297) (t := 0) (n := 600) (c' := 1) (s := 126) (r := some 297) hs29 (by decide)
  have hn34 := nn_step (k := 297) (t := 0) (n := 600) (c := 1) (s := 126) (r := some 297) hn30
  have tr35 := rr_step (k := 297) (t := 0) (n := 600) (c := 1) (s := 126) (r := some 297) tr31 (by decide) (by decide)
  have ts36 := ss_step (k := 297) (t := 0) (n := 600) (c' := 1) (s := 126) (r := some 297) ts32 (by decide)
  have hs37 := ss_step (k := 298) (t := 0) (n := 48) (c' := 1) (s := 128) (r := some 298) hs33 (by decide)
  have hn38 := nn_step (k := 298) (t := 0) (n := 48) (c := 1) (s := 128) (r := some 298) hn34
  have tr39 := rr_step (k := 298) (t := 0) (n := 48) (c := 1) (s := 128) (r := some 298) tr35 (by decide) (by decide)
  have ts40 := ss_step (k := 298) (t := 0) (n := 48) (c' := 1) (s := 128) (r := some 298) ts36 (by decide)
  have hs41 := ss_step (k := 299) (t := 1) (n := 48) (c' := 1) (s := 129) (r := some 299) hs37 (by decide)
  have hn42 := nn_step (k := 299) (t := 1) (n := 48) (c := 1) (s := 129) (r := some 299) hn38
  have tr43 := rr_step (k := 299) (t := 1) (n := 48) (c := 1) (s := 129) (r := some 299) tr39 (by decide) (by decide)
  have ts44 := ss_step (k := 299) (t := 1) (n := 48) (c' := 1) (s := 129) (r := some 299) ts40 (by decide)
  have hs45 := ss_im (a := 1) (k := 130) (x := 3) hs41
  have hn46 := nn_im (b := 1) (k := 130) (x := 3) hn42
  have tr47 := rr_im (a := 1) (k := 130) (x := 3) tr43
  have ts48 := ss_im (a := 1) (k := 130) (x := 3) ts44
  exact ⟨hs45, hn46, tr47, ts48⟩
theorem ck_6 (d : Nat) (h : Hp_) (K : Option Value → Hp_ → Prop) (hs : h_sh h 1 = some (22, 131)) (hn : ∀ a, 289 ≤ a → a < 300 → h_sh h a = none) (tr : h_r h 1 84 = some 265) (ts : h_sh h 265 = some (0, 8)) (k : AW (m_X12_init (d + 1) 100 288204) 100 288204 846 [(0, .ref 1)] [] (CC_6 h) K) : AW (m_X12_init (d + 1) 100 288204) 89 281952 749 [(0, .ref 1)] [] h K := by
  refine aw_aload_n (i := 0) rfl d_X12_init_749 0 rfl ?_
  refine aw_iconst (v := 4) d_X12_init_750 ic_4 ?_
  refine aw_newa (t := 0) (atype := .int) 289 4 (by decide) rfl tw_51 (hn 289 (by decide) (by decide)) (by decide) xs0 (by decide +kernel) (by decide +kernel) (by decide +kernel) (show 89 + 1 ≤ 100 from by decide +kernel) (show 281952 + 4 ≤ 288204 from by decide +kernel) d_X12_init_751 ?_
  refine aw_putrF (k0 := 117) kc_12 (ss_n hs (by decide)) (Nat.le_of_ble_eq_true rfl) tw_1859 d_X12_init_753 rfl rfl rfl rfl ?_
  have hs1 := ss_step (k := 289) (t := 0) (n := 4) (c' := 1) (s := 117) (r := some 289) hs (by decide)
  have hn2 := nn_step (k := 289) (t := 0) (n := 4) (c := 1) (s := 117) (r := some 289) hn
  have tr3 := rr_step (k := 289) (t := 0) (n := 4) (c := 1) (s := 117) (r := some 289) tr (by decide) (by decide)
  have ts4 := ss_step (k := 289) (t := 0) (n := 4) (c' := 1) (s := 117) (r := some 289) ts (by decide)
  refine aw_aload_n (i := 0) rfl d_X12_init_756 0 rfl ?_
  refine aw_iconst (v := 4) d_X12_init_757 ic_4 ?_
  refine aw_newa (t := 0) (atype := .int) 290 4 (by decide) rfl tw_51 (hn2 290 (by decide) (by decide)) (by decide) xs0 (by decide +kernel) (by decide +kernel) (by decide +kernel) (show 90 + 1 ≤ 100 from by decide +kernel) (show 281956 + 4 ≤ 288204 from by decide +kernel) d_X12_init_758 ?_
  refine aw_putrF (k0 := 118) kc_12 (ss_n hs1 (by decide)) (Nat.le_of_ble_eq_true rfl) tw_1860 d_X12_init_760 rfl rfl rfl rfl ?_
  have hs5 := ss_step (k := 290) (t := 0) (n := 4) (c' := 1) (s := 118) (r := some 290) hs1 (by decide)
  have hn6 := nn_step (k := 290) (t := 0) (n := 4) (c := 1) (s := 118) (r := some 290) hn2
  have tr7 := rr_step (k := 290) (t := 0) (n := 4) (c := 1) (s := 118) (r := some 290) tr3 (by decide) (by decide)
  have ts8 := ss_step (k := 290) (t := 0) (n := 4) (c' := 1) (s := 118) (r := some 290) ts4 (by decide)
  refine aw_aload_n (i := 0) rfl d_X12_init_763 0 rfl ?_
  refine aw_sipush (v := 3328) d_X12_init_764 is_3328 ?_
  refine aw_newa (t := 0) (atype := .int) 291 3328 (by decide) rfl tw_51 (hn6 291 (by decide) (by decide)) (by decide) xs0 (by decide +kernel) (by decide +kernel) (by decide +kernel) (show 91 + 1 ≤ 100 from by decide +kernel) (show 281960 + 3328 ≤ 288204 from by decide +kernel) d_X12_init_767 ?_
  refine aw_putrF (k0 := 120) kc_12 (ss_n hs5 (by decide)) (Nat.le_of_ble_eq_true rfl) tw_1862 d_X12_init_769 rfl rfl rfl rfl ?_
  have hs9 := ss_step (k := 291) (t := 0) (n := 3328) (c' := 1) (s := 120) (r := some 291) hs5 (by decide)
  have hn10 := nn_step (k := 291) (t := 0) (n := 3328) (c := 1) (s := 120) (r := some 291) hn6
  have tr11 := rr_step (k := 291) (t := 0) (n := 3328) (c := 1) (s := 120) (r := some 291) tr7 (by decide) (by decide)
  have ts12 := ss_step (k := 291) (t := 0) (n := 3328) (c' := 1) (s := 120) (r := some 291) ts8 (by decide)
  refine aw_aload_n (i := 0) rfl d_X12_init_772 0 rfl ?_
  refine aw_bipush (v := 48) d_X12_init_773 ib_48 ?_
  refine aw_newa (t := 0) (atype := .int) 292 48 (by decide) rfl tw_51 (hn10 292 (by decide) (by decide)) (by decide) xs0 (by decide +kernel) (by decide +kernel) (by decide +kernel) (show 92 + 1 ≤ 100 from by decide +kernel) (show 285288 + 48 ≤ 288204 from by decide +kernel) d_X12_init_775 ?_
  refine aw_putrF (k0 := 121) kc_12 (ss_n hs9 (by decide)) (Nat.le_of_ble_eq_true rfl) tw_1863 d_X12_init_777 rfl rfl rfl rfl ?_
  have hs13 := ss_step (k := 292) (t := 0) (n := 48) (c' := 1) (s := 121) (r := some 292) hs9 (by decide)
  have hn14 := nn_step (k := 292) (t := 0) (n := 48) (c := 1) (s := 121) (r := some 292) hn10
  have tr15 := rr_step (k := 292) (t := 0) (n := 48) (c := 1) (s := 121) (r := some 292) tr11 (by decide) (by decide)
  have ts16 := ss_step (k := 292) (t := 0) (n := 48) (c' := 1) (s := 121) (r := some 292) ts12 (by decide)
  refine aw_aload_n (i := 0) rfl d_X12_init_780 0 rfl ?_
  refine aw_sipush (v := 372) d_X12_init_781 is_372 ?_
  refine aw_newa (t := 0) (atype := .int) 293 372 (by decide) rfl tw_51 (hn14 293 (by decide) (by decide)) (by decide) xs0 (by decide +kernel) (by decide +kernel) (by decide +kernel) (show 93 + 1 ≤ 100 from by decide +kernel) (show 285336 + 372 ≤ 288204 from by decide +kernel) d_X12_init_784 ?_
  refine aw_putrF (k0 := 122) kc_12 (ss_n hs13 (by decide)) (Nat.le_of_ble_eq_true rfl) tw_1864 d_X12_init_786 rfl rfl rfl rfl ?_
  have hs17 := ss_step (k := 293) (t := 0) (n := 372) (c' := 1) (s := 122) (r := some 293) hs13 (by decide)
  have hn18 := nn_step (k := 293) (t := 0) (n := 372) (c := 1) (s := 122) (r := some 293) hn14
  have tr19 := rr_step (k := 293) (t := 0) (n := 372) (c := 1) (s := 122) (r := some 293) tr15 (by decide) (by decide)
  have ts20 := ss_step (k := 293) (t := 0) (n := 372) (c' := 1) (s := 122) (r := some 293) ts16 (by decide)
  refine aw_aload_n (i := 0) rfl d_X12_init_789 0 rfl ?_
  refine aw_sipush (v := 600) d_X12_init_790 is_600 ?_
  refine aw_newa (t := 0) (atype := .int) 294 600 (by decide) rfl tw_51 (hn18 294 (by decide) (by decide)) (by decide) xs0 (by decide +kernel) (by decide +kernel) (by decide +kernel) (show 94 + 1 ≤ 100 from by decide +kernel) (show 285708 + 600 ≤ 288204 from by decide +kernel) d_X12_init_793 ?_
  refine aw_putrF (k0 := 123) kc_12 (ss_n hs17 (by decide)) (Nat.le_of_ble_eq_true rfl) tw_1865 d_X12_init_795 rfl rfl rfl rfl ?_
  have hs21 := ss_step (k := 294) (t := 0) (n := 600) (c' := 1) (s := 123) (r := some 294) hs17 (by decide)
  have hn22 := nn_step (k := 294) (t := 0) (n := 600) (c := 1) (s := 123) (r := some 294) hn18
  have tr23 := rr_step (k := 294) (t := 0) (n := 600) (c := 1) (s := 123) (r := some 294) tr19 (by decide) (by decide)
  have ts24 := ss_step (k := 294) (t := 0) (n := 600) (c' := 1) (s := 123) (r := some 294) ts20 (by decide)
  refine aw_aload_n (i := 0) rfl d_X12_init_798 0 rfl ?_
  refine aw_sipush (v := 600) d_X12_init_799 is_600 ?_
  refine aw_newa (t := 0) (atype := .int) 295 600 (by decide) rfl tw_51 (hn22 295 (by decide) (by decide)) (by decide) xs0 (by decide +kernel) (by decide +kernel) (by decide +kernel) (show 95 + 1 ≤ 100 from by decide +kernel) (show 286308 + 600 ≤ 288204 from by decide +kernel) d_X12_init_802 ?_
  refine aw_putrF (k0 := 124) kc_12 (ss_n hs21 (by decide)) (Nat.le_of_ble_eq_true rfl) tw_1866 d_X12_init_804 rfl rfl rfl rfl ?_
  have hs25 := ss_step (k := 295) (t := 0) (n := 600) (c' := 1) (s := 124) (r := some 295) hs21 (by decide)
  have hn26 := nn_step (k := 295) (t := 0) (n := 600) (c := 1) (s := 124) (r := some 295) hn22
  have tr27 := rr_step (k := 295) (t := 0) (n := 600) (c := 1) (s := 124) (r := some 295) tr23 (by decide) (by decide)
  have ts28 := ss_step (k := 295) (t := 0) (n := 600) (c' := 1) (s := 124) (r := some 295) ts24 (by decide)
  refine aw_aload_n (i := 0) rfl d_X12_init_807 0 rfl ?_
  refine aw_sipush (v := 600) d_X12_init_808 is_600 ?_
  refine aw_newa (t := 0) (atype := .int) 296 600 (by decide) rfl tw_51 (hn26 296 (by decide) (by decide)) (by decide) xs0 (by decide +kernel) (by decide +kernel) (by decide +kernel) (show 96 + 1 ≤ 100 from by decide +kernel) (show 286908 + 600 ≤ 288204 from by decide +kernel) d_X12_init_811 ?_
  refine aw_putrF (k0 := 125) kc_12 (ss_n hs25 (by decide)) (Nat.le_of_ble_eq_true rfl) tw_1867 d_X12_init_813 rfl rfl rfl rfl ?_
  have hs29 := ss_step (k := 296) (t := 0) (n := 600) (c' := 1) (s := 125) (r := some 296) hs25 (by decide)
  have hn30 := nn_step (k := 296) (t := 0) (n := 600) (c := 1) (s := 125) (r := some 296) hn26
  have tr31 := rr_step (k := 296) (t := 0) (n := 600) (c := 1) (s := 125) (r := some 296) tr27 (by decide) (by decide)
  have ts32 := ss_step (k := 296) (t := 0) (n := 600) (c' := 1) (s := 125) (r := some 296) ts28 (by decide)
  refine aw_aload_n (i := 0) rfl d_X12_init_816 0 rfl ?_
  refine aw_sipush (v := 600) d_X12_init_817 is_600 ?_
  refine aw_newa (t := 0) (atype := .int) 297 600 (by decide) rfl tw_51 (hn30 297 (by decide) (by decide)) (by decide) xs0 (by decide +kernel) (by decide +kernel) (by decide +kernel) (show 97 + 1 ≤ 100 from by decide +kernel) (show 287508 + 600 ≤ 288204 from by decide +kernel) d_X12_init_820 ?_
  refine aw_putrF (k0 := 126) kc_12 (ss_n hs29 (by decide)) (Nat.le_of_ble_eq_true rfl) tw_1868 d_X12_init_822 rfl rfl rfl rfl ?_
  have hs33 := ss_step (k := 297) (t := 0) (n := 600) (c' := 1) (s := 126) (r := some 297) hs29 (by decide)
  have hn34 := nn_step (k := 297) (t := 0) (n := 600) (c := 1) (s := 126) (r := some 297) hn30
  have tr35 := rr_step (k := 297) (t := 0) (n := 600) (c := 1) (s := 126) (r := some 297) tr31 (by decide) (by decide)
  have ts36 := ss_step (k := 297) (t := 0) (n := 600) (c' := 1) (s := 126) (r := some 297) ts32 (by decide)
  refine aw_aload_n (i := 0) rfl d_X12_init_825 0 rfl ?_
  refine aw_bipush (v := 48) d_X12_init_826 ib_48 ?_
  refine aw_newa (t := 0) (atype := .int) 298 48 (by decide) rfl tw_51 (hn34 298 (by decide) (by decide)) (by decide) xs0 (by decide +kernel) (by decide +kernel) (by decide +kernel) (show 98 + 1 ≤ 100 from by decide +kernel) (show 288108 + 48 ≤ 288204 from by decide +kernel) d_X12_init_828 ?_
  refine aw_putrF (k0 := 128) kc_12 (ss_n hs33 (by decide)) (Nat.le_of_ble_eq_true rfl) tw_1870 d_X12_init_830 rfl rfl rfl rfl ?_
  have hs37 := ss_step (k := 298) (t := 0) (n := 48) (c' := 1) (s := 128) (r := some 298) hs33 (by decide)
  have hn38 := nn_step (k := 298) (t := 0) (n := 48) (c := 1) (s := 128) (r := some 298) hn34
  have tr39 := rr_step (k := 298) (t := 0) (n := 48) (c := 1) (s := 128) (r := some 298) tr35 (by decide) (by decide)
  have ts40 := ss_step (k := 298) (t := 0) (n := 48) (c' := 1) (s := 128) (r := some 298) ts36 (by decide)
  refine aw_aload_n (i := 0) rfl d_X12_init_833 0 rfl ?_
  refine aw_bipush (v := 48) d_X12_init_834 ib_48 ?_
  refine aw_newa (t := 1) (atype := .boolean) 299 48 (by decide) rfl tw_252 (hn38 299 (by decide) (by decide)) (by decide) xs0 (by decide +kernel) (by decide +kernel) (by decide +kernel) (show 99 + 1 ≤ 100 from by decide +kernel) (show 288156 + 48 ≤ 288204 from by decide +kernel) d_X12_init_836 ?_
  refine aw_putrF (k0 := 129) kc_12 (ss_n hs37 (by decide)) (Nat.le_of_ble_eq_true rfl) tw_1871 d_X12_init_838 rfl rfl rfl rfl ?_
  have hs41 := ss_step (k := 299) (t := 1) (n := 48) (c' := 1) (s := 129) (r := some 299) hs37 (by decide)
  have hn42 := nn_step (k := 299) (t := 1) (n := 48) (c := 1) (s := 129) (r := some 299) hn38
  have tr43 := rr_step (k := 299) (t := 1) (n := 48) (c := 1) (s := 129) (r := some 299) tr39 (by decide) (by decide)
  have ts44 := ss_step (k := 299) (t := 1) (n := 48) (c' := 1) (s := 129) (r := some 299) ts40 (by decide)
  refine aw_aload_n (i := 0) rfl d_X12_init_841 0 rfl ?_
  refine aw_iconst (v := 3) d_X12_init_842 ic_3 ?_
  refine aw_puti (k0 := 130) kc_12 hs41 (Nat.le_of_ble_eq_true rfl) tw_1872 d_X12_init_843 rfl rfl nf_i ?_
  have hs45 := ss_im (a := 1) (k := 130) (x := 3) hs41
  have hn46 := nn_im (b := 1) (k := 130) (x := 3) hn42
  have tr47 := rr_im (a := 1) (k := 130) (x := 3) tr43
  have ts48 := ss_im (a := 1) (k := 130) (x := 3) ts44
  exact k
noncomputable def CH_1 (h : Hp_) : Hp_ := h_im (h_im (h_im (h_im (h_im (h_im (h_im (h_im (CC_6 (CC_5 (CC_4 (CC_3 (CC_2 (CC_1 (CC_0 h))))))) 265 ((0 : Int32).toNatClampNeg) 1) 265 ((1 : Int32).toNatClampNeg) 1) 265 ((2 : Int32).toNatClampNeg) 1) 265 ((3 : Int32).toNatClampNeg) 1) 265 ((4 : Int32).toNatClampNeg) 1) 265 ((5 : Int32).toNatClampNeg) 1) 265 ((6 : Int32).toNatClampNeg) 1) 265 ((7 : Int32).toNatClampNeg) 1
theorem k_X12_init_1 (d : Nat) (h : Hp_) (hs : h_sh h 1 = some (22, 131)) (hn : ∀ a, 200 ≤ a → a < 300 → h_sh h a = none) : Cv (m_X12_init (d + 1) 100 288204) [.ref 1] h (fun h' => h' = CH_1 h) := by
  refine Ct.of (fun _ _ _ => trivial) pn_X12 (Nat.le_of_ble_eq_true rfl) ?_
  show AW (m_X12_init (d + 1) 100 288204) 0 0 0 [(0, .ref 1)] [] h (kV _)
  refine aw_aload_n (i := 0) rfl d_X12_init_0 0 rfl ?_
  refine aw_objInit (rest := []) d_X12_init_1 tw_1740 tw_33 tw_34 (show 1 ≤ d + 1 by omega) (show 0 + 12 ≤ 100 * (d + 1) by omega) ?_
  have q0 := cf_0 h hs hn
  refine ck_0 d h _ hs hn ?_
  have q1 := cf_1 (CC_0 h) q0.1 q0.2
  refine ck_1 d (CC_0 h) _ q0.1 q0.2 ?_
  have q2 := cf_2 (CC_1 (CC_0 h)) q1.1 q1.2
  refine ck_2 d (CC_1 (CC_0 h)) _ q1.1 q1.2 ?_
  have q3 := cf_3 (CC_2 (CC_1 (CC_0 h))) q2.1 q2.2
  refine ck_3 d (CC_2 (CC_1 (CC_0 h))) _ q2.1 q2.2 ?_
  have q4 := cf_4 (CC_3 (CC_2 (CC_1 (CC_0 h)))) q3.1 q3.2
  refine ck_4 d (CC_3 (CC_2 (CC_1 (CC_0 h)))) _ q3.1 q3.2 ?_
  have q5 := cf_5 (CC_4 (CC_3 (CC_2 (CC_1 (CC_0 h))))) q4.1 q4.2.1 q4.2.2.1 q4.2.2.2
  refine ck_5 d (CC_4 (CC_3 (CC_2 (CC_1 (CC_0 h))))) _ q4.1 q4.2.1 q4.2.2.1 q4.2.2.2 ?_
  have q6 := cf_6 (CC_5 (CC_4 (CC_3 (CC_2 (CC_1 (CC_0 h)))))) q5.1 q5.2.1 q5.2.2.1 q5.2.2.2
  refine ck_6 d (CC_5 (CC_4 (CC_3 (CC_2 (CC_1 (CC_0 h)))))) _ q5.1 q5.2.1 q5.2.2.1 q5.2.2.2 ?_
  have hs0 := q6.1
  have tr0 := q6.2.2.1
  have ts0 := q6.2.2.2
  generalize hB : CC_6 (CC_5 (CC_4 (CC_3 (CC_2 (CC_1 (CC_0 h)))))) = B at hs0 tr0 ts0 ⊢
  refine aw_iconst (v := 0) d_X12_init_846 ic_0 ?_
  refine aw_istore_n (i := 1) rfl [(0, .ref 1), (1, .int 0)] d_X12_init_847 (Nat.le_of_ble_eq_true rfl) rfl rfl ?_
  refine aw_iload_n (i := 1) rfl d_X12_init_848 1 rfl ?_
  refine aw_bipush (v := 8) d_X12_init_849 ib_8 ?_
  refine aw_icmp_ge (tgt := 867) d_X12_init_851 rfl (fun c => absurd c (by decide)) (fun _ => ?_)
  refine aw_aload_n (i := 0) rfl d_X12_init_854 0 rfl ?_
  refine aw_getr (k0 := 84) (b := 265) kc_12 hs0 (Nat.le_of_ble_eq_true rfl) tw_1826 d_X12_init_855 rfl tr0 ?_
  refine aw_iload_n (i := 1) rfl d_X12_init_858 1 rfl ?_
  refine aw_iconst (v := 1) d_X12_init_859 ic_1 ?_
  refine aw_iast (n := 8) ts0 (vin_c (by decide)) d_X12_init_860 ?_
  have hs1 := ss_im (a := 265) (k := ((0 : Int32).toNatClampNeg)) (x := 1) hs0
  have tr1 := rr_im (a := 265) (k := ((0 : Int32).toNatClampNeg)) (x := 1) tr0
  have ts1 := ss_im (a := 265) (k := ((0 : Int32).toNatClampNeg)) (x := 1) ts0
  refine aw_iinc (v := 1) [(0, .ref 1), (1, .int 1)] d_X12_init_861 1 rfl (by decide) (Nat.le_of_ble_eq_true rfl) rfl rfl ?_
  refine aw_goto (tgt := 848) d_X12_init_864 rfl ?_
  refine aw_iload_n (i := 1) rfl d_X12_init_848 1 rfl ?_
  refine aw_bipush (v := 8) d_X12_init_849 ib_8 ?_
  refine aw_icmp_ge (tgt := 867) d_X12_init_851 rfl (fun c => absurd c (by decide)) (fun _ => ?_)
  refine aw_aload_n (i := 0) rfl d_X12_init_854 0 rfl ?_
  refine aw_getr (k0 := 84) (b := 265) kc_12 hs1 (Nat.le_of_ble_eq_true rfl) tw_1826 d_X12_init_855 rfl tr1 ?_
  refine aw_iload_n (i := 1) rfl d_X12_init_858 1 rfl ?_
  refine aw_iconst (v := 1) d_X12_init_859 ic_1 ?_
  refine aw_iast (n := 8) ts1 (vin_c (by decide)) d_X12_init_860 ?_
  have hs2 := ss_im (a := 265) (k := ((1 : Int32).toNatClampNeg)) (x := 1) hs1
  have tr2 := rr_im (a := 265) (k := ((1 : Int32).toNatClampNeg)) (x := 1) tr1
  have ts2 := ss_im (a := 265) (k := ((1 : Int32).toNatClampNeg)) (x := 1) ts1
  refine aw_iinc (v := 2) [(0, .ref 1), (1, .int 2)] d_X12_init_861 1 rfl (by decide) (Nat.le_of_ble_eq_true rfl) rfl rfl ?_
  refine aw_goto (tgt := 848) d_X12_init_864 rfl ?_
  refine aw_iload_n (i := 1) rfl d_X12_init_848 1 rfl ?_
  refine aw_bipush (v := 8) d_X12_init_849 ib_8 ?_
  refine aw_icmp_ge (tgt := 867) d_X12_init_851 rfl (fun c => absurd c (by decide)) (fun _ => ?_)
  refine aw_aload_n (i := 0) rfl d_X12_init_854 0 rfl ?_
  refine aw_getr (k0 := 84) (b := 265) kc_12 hs2 (Nat.le_of_ble_eq_true rfl) tw_1826 d_X12_init_855 rfl tr2 ?_
  refine aw_iload_n (i := 1) rfl d_X12_init_858 1 rfl ?_
  refine aw_iconst (v := 1) d_X12_init_859 ic_1 ?_
  refine aw_iast (n := 8) ts2 (vin_c (by decide)) d_X12_init_860 ?_
  have hs3 := ss_im (a := 265) (k := ((2 : Int32).toNatClampNeg)) (x := 1) hs2
  have tr3 := rr_im (a := 265) (k := ((2 : Int32).toNatClampNeg)) (x := 1) tr2
  have ts3 := ss_im (a := 265) (k := ((2 : Int32).toNatClampNeg)) (x := 1) ts2
  refine aw_iinc (v := 3) [(0, .ref 1), (1, .int 3)] d_X12_init_861 1 rfl (by decide) (Nat.le_of_ble_eq_true rfl) rfl rfl ?_
  refine aw_goto (tgt := 848) d_X12_init_864 rfl ?_
  refine aw_iload_n (i := 1) rfl d_X12_init_848 1 rfl ?_
  refine aw_bipush (v := 8) d_X12_init_849 ib_8 ?_
  refine aw_icmp_ge (tgt := 867) d_X12_init_851 rfl (fun c => absurd c (by decide)) (fun _ => ?_)
  refine aw_aload_n (i := 0) rfl d_X12_init_854 0 rfl ?_
  refine aw_getr (k0 := 84) (b := 265) kc_12 hs3 (Nat.le_of_ble_eq_true rfl) tw_1826 d_X12_init_855 rfl tr3 ?_
  refine aw_iload_n (i := 1) rfl d_X12_init_858 1 rfl ?_
  refine aw_iconst (v := 1) d_X12_init_859 ic_1 ?_
  refine aw_iast (n := 8) ts3 (vin_c (by decide)) d_X12_init_860 ?_
  have hs4 := ss_im (a := 265) (k := ((3 : Int32).toNatClampNeg)) (x := 1) hs3
  have tr4 := rr_im (a := 265) (k := ((3 : Int32).toNatClampNeg)) (x := 1) tr3
  have ts4 := ss_im (a := 265) (k := ((3 : Int32).toNatClampNeg)) (x := 1) ts3
  refine aw_iinc (v := 4) [(0, .ref 1), (1, .int 4)] d_X12_init_861 1 rfl (by decide) (Nat.le_of_ble_eq_true rfl) rfl rfl ?_
  refine aw_goto (tgt := 848) d_X12_init_864 rfl ?_
  refine aw_iload_n (i := 1) rfl d_X12_init_848 1 rfl ?_
  refine aw_bipush (v := 8) d_X12_init_849 ib_8 ?_
  refine aw_icmp_ge (tgt := 867) d_X12_init_851 rfl (fun c => absurd c (by decide)) (fun _ => ?_)
  refine aw_aload_n (i := 0) rfl d_X12_init_854 0 rfl ?_
  refine aw_getr (k0 := 84) (b := 265) kc_12 hs4 (Nat.le_of_ble_eq_true rfl) tw_1826 d_X12_init_855 rfl tr4 ?_
  refine aw_iload_n (i := 1) rfl d_X12_init_858 1 rfl ?_
  refine aw_iconst (v := 1) d_X12_init_859 ic_1 ?_
  refine aw_iast (n := 8) ts4 (vin_c (by decide)) d_X12_init_860 ?_
  have hs5 := ss_im (a := 265) (k := ((4 : Int32).toNatClampNeg)) (x := 1) hs4
  have tr5 := rr_im (a := 265) (k := ((4 : Int32).toNatClampNeg)) (x := 1) tr4
  have ts5 := ss_im (a := 265) (k := ((4 : Int32).toNatClampNeg)) (x := 1) ts4
  refine aw_iinc (v := 5) [(0, .ref 1), (1, .int 5)] d_X12_init_861 1 rfl (by decide) (Nat.le_of_ble_eq_true rfl) rfl rfl ?_
  refine aw_goto (tgt := 848) d_X12_init_864 rfl ?_
  refine aw_iload_n (i := 1) rfl d_X12_init_848 1 rfl ?_
  refine aw_bipush (v := 8) d_X12_init_849 ib_8 ?_
  refine aw_icmp_ge (tgt := 867) d_X12_init_851 rfl (fun c => absurd c (by decide)) (fun _ => ?_)
  refine aw_aload_n (i := 0) rfl d_X12_init_854 0 rfl ?_
  refine aw_getr (k0 := 84) (b := 265) kc_12 hs5 (Nat.le_of_ble_eq_true rfl) tw_1826 d_X12_init_855 rfl tr5 ?_
  refine aw_iload_n (i := 1) rfl d_X12_init_858 1 rfl ?_
  refine aw_iconst (v := 1) d_X12_init_859 ic_1 ?_
  refine aw_iast (n := 8) ts5 (vin_c (by decide)) d_X12_init_860 ?_
  have hs6 := ss_im (a := 265) (k := ((5 : Int32).toNatClampNeg)) (x := 1) hs5
  have tr6 := rr_im (a := 265) (k := ((5 : Int32).toNatClampNeg)) (x := 1) tr5
  have ts6 := ss_im (a := 265) (k := ((5 : Int32).toNatClampNeg)) (x := 1) ts5
  refine aw_iinc (v := 6) [(0, .ref 1), (1, .int 6)] d_X12_init_861 1 rfl (by decide) (Nat.le_of_ble_eq_true rfl) rfl rfl ?_
  refine aw_goto (tgt := 848) d_X12_init_864 rfl ?_
  refine aw_iload_n (i := 1) rfl d_X12_init_848 1 rfl ?_
  refine aw_bipush (v := 8) d_X12_init_849 ib_8 ?_
  refine aw_icmp_ge (tgt := 867) d_X12_init_851 rfl (fun c => absurd c (by decide)) (fun _ => ?_)
  refine aw_aload_n (i := 0) rfl d_X12_init_854 0 rfl ?_
  refine aw_getr (k0 := 84) (b := 265) kc_12 hs6 (Nat.le_of_ble_eq_true rfl) tw_1826 d_X12_init_855 rfl tr6 ?_
  refine aw_iload_n (i := 1) rfl d_X12_init_858 1 rfl ?_
  refine aw_iconst (v := 1) d_X12_init_859 ic_1 ?_
  refine aw_iast (n := 8) ts6 (vin_c (by decide)) d_X12_init_860 ?_
  have hs7 := ss_im (a := 265) (k := ((6 : Int32).toNatClampNeg)) (x := 1) hs6
  have tr7 := rr_im (a := 265) (k := ((6 : Int32).toNatClampNeg)) (x := 1) tr6
  have ts7 := ss_im (a := 265) (k := ((6 : Int32).toNatClampNeg)) (x := 1) ts6
  refine aw_iinc (v := 7) [(0, .ref 1), (1, .int 7)] d_X12_init_861 1 rfl (by decide) (Nat.le_of_ble_eq_true rfl) rfl rfl ?_
  refine aw_goto (tgt := 848) d_X12_init_864 rfl ?_
  refine aw_iload_n (i := 1) rfl d_X12_init_848 1 rfl ?_
  refine aw_bipush (v := 8) d_X12_init_849 ib_8 ?_
  refine aw_icmp_ge (tgt := 867) d_X12_init_851 rfl (fun c => absurd c (by decide)) (fun _ => ?_)
  refine aw_aload_n (i := 0) rfl d_X12_init_854 0 rfl ?_
  refine aw_getr (k0 := 84) (b := 265) kc_12 hs7 (Nat.le_of_ble_eq_true rfl) tw_1826 d_X12_init_855 rfl tr7 ?_
  refine aw_iload_n (i := 1) rfl d_X12_init_858 1 rfl ?_
  refine aw_iconst (v := 1) d_X12_init_859 ic_1 ?_
  refine aw_iast (n := 8) ts7 (vin_c (by decide)) d_X12_init_860 ?_
  have hs8 := ss_im (a := 265) (k := ((7 : Int32).toNatClampNeg)) (x := 1) hs7
  have tr8 := rr_im (a := 265) (k := ((7 : Int32).toNatClampNeg)) (x := 1) tr7
  have ts8 := ss_im (a := 265) (k := ((7 : Int32).toNatClampNeg)) (x := 1) ts7
  refine aw_iinc (v := 8) [(0, .ref 1), (1, .int 8)] d_X12_init_861 1 rfl (by decide) (Nat.le_of_ble_eq_true rfl) rfl rfl ?_
  refine aw_goto (tgt := 848) d_X12_init_864 rfl ?_
  refine aw_iload_n (i := 1) rfl d_X12_init_848 1 rfl ?_
  refine aw_bipush (v := 8) d_X12_init_849 ib_8 ?_
  refine aw_icmp_ge (tgt := 867) d_X12_init_851 rfl (fun _ => ?_) (fun c => absurd c (by decide))
  rw [← hB]
  exact aw_vret rfl d_X12_init_867 ⟨show 100 ≤ 100 from Nat.le_refl _, show 288204 ≤ 288204 from Nat.le_refl _⟩ ⟨rfl, rfl⟩
end
section
noncomputable def hE : Hp_ := (fun _ => none, fun _ _ => 0, fun _ _ => 0, fun _ _ => none)
noncomputable def G0 : Hp_ := h_nw hE 0 21 16
theorem rng_none {h : Hp_} {lo hi : Nat} (hc : (List.range (hi - lo)).all (fun i => (h_sh h (lo + i)).isNone) = true) : ∀ a, lo ≤ a → a < hi → h_sh h a = none := by
  intro a h1 h2
  have z := List.all_eq_true.mp hc (a - lo) (List.mem_range.mpr (by omega))
  rw [show lo + (a - lo) = a from by omega] at z
  exact Option.isNone_iff_eq_none.mp z
noncomputable def G1 : Hp_ := h_nw G0 10 19 2
noncomputable def G2 : Hp_ := CH_10 G1
noncomputable def G3 : Hp_ := h_rm G2 0 1 (some 10)
noncomputable def G4 : Hp_ := h_nw G3 11 18 10
noncomputable def G5 : Hp_ := CH_11 G4
noncomputable def G6 : Hp_ := h_rm G5 0 2 (some 11)
noncomputable def G7 : Hp_ := h_nw G6 12 10 4
noncomputable def G8 : Hp_ := CH_12 G7
noncomputable def G9 : Hp_ := h_rm G8 0 3 (some 12)
noncomputable def G10 : Hp_ := h_nw G9 13 20 6
noncomputable def G11 : Hp_ := CH_13 G10
noncomputable def G12 : Hp_ := h_rm G11 0 4 (some 13)
noncomputable def G13 : Hp_ := h_nw G12 14 20 6
noncomputable def G14 : Hp_ := CH_14 G13
noncomputable def G15 : Hp_ := h_rm G14 0 5 (some 14)
noncomputable def G16 : Hp_ := h_nw G15 15 4 12
noncomputable def G17 : Hp_ := h_rm G16 0 6 (some 15)
noncomputable def G18 : Hp_ := h_nw G17 16 17 12
noncomputable def G19 : Hp_ := CH_16 G18
noncomputable def G20 : Hp_ := h_rm G19 0 8 (some 16)
noncomputable def G21 : Hp_ := h_nw G20 17 14 17
noncomputable def G22 : Hp_ := CH_17 G21
noncomputable def G23 : Hp_ := h_rm G22 0 9 (some 17)
noncomputable def G24 : Hp_ := h_nw G23 18 11 16
noncomputable def G25 : Hp_ := CH_18 G24
noncomputable def G26 : Hp_ := h_rm G25 0 10 (some 18)
noncomputable def G27 : Hp_ := h_nw G26 19 13 11
noncomputable def G28 : Hp_ := CH_19 G27
noncomputable def G29 : Hp_ := h_rm G28 0 11 (some 19)
noncomputable def G30 : Hp_ := h_nw G29 20 16 20
noncomputable def G31 : Hp_ := CH_20 G30
noncomputable def G32 : Hp_ := h_rm G31 0 12 (some 20)
noncomputable def G33 : Hp_ := h_nw G32 21 15 16
noncomputable def G34 : Hp_ := CH_21 G33
noncomputable def G35 : Hp_ := h_rm G34 0 13 (some 21)
noncomputable def G36 : Hp_ := h_nw G35 400 3 0
noncomputable def G37 : Hp_ := h_rm G36 0 15 (some 400)
theorem k_X11_init_0 (d : Nat) : Cv (m_X11_init (d + 2) 99 30357) [.ref 0] G0 (fun h' => h' = G37) := by
  refine Ct.of (fun _ _ _ => trivial) pn_X11 (Nat.le_of_ble_eq_true rfl) ?_
  show AW (m_X11_init (d + 2) 99 30357) 0 0 0 [(0, .ref 0)] [] G0 (kV _)
  refine aw_aload_n (i := 0) rfl d_X11_init_0 0 rfl ?_
  refine aw_objInit (rest := []) d_X11_init_1 tw_32 tw_33 tw_34 (show 1 ≤ d + 2 by omega) (show 0 + 12 ≤ 100 * (d + 2) by omega) ?_
  refine aw_aload_n (i := 0) rfl d_X11_init_4 0 rfl ?_
  refine aw_new (ci := 9) 10 kc_9 tw_35 tw_36 tw_2 (by decide +kernel) (by decide) xs0 (show 0 + 1 ≤ 99 from by decide +kernel) (show 0 + 2 ≤ 30357 from by decide +kernel) d_X11_init_5 ?_
  show AW (m_X11_init (d + 2) 99 30357) 1 2 8 [(0, .ref 0)] [.ref 10, .ref 0] G1 (kV _)
  refine aw_dup d_X11_init_8 rfl ?_
  refine aw_callI (vs := []) (a := 10) (rest := [.ref 10, .ref 0]) d_X11_init_9 (cI_X9_init (d + 1) 1 256) ⟨rfl, rfl⟩ tw_38 tw_37 rfl ⟨show d + 1 + 1 ≤ d + 2 by omega, show 8 + (2 + 11) + 100 * (d + 1) ≤ 100 * (d + 2) by omega⟩ (by decide) ⟨show 1 + 1 ≤ 99 from by decide +kernel, show 2 + 256 ≤ 30357 from by decide +kernel⟩ xs0 (k_X9_init_10 d G1 (by decide +kernel) (rng_none (by decide +kernel))) (fun v h9 kk => ?_)
  obtain ⟨rfl, rfl⟩ := kk
  show AW (m_X11_init (d + 2) 99 30357) 2 258 12 [(0, .ref 0)] [.ref 10, .ref 0] G2 (kV _)
  refine aw_putrF (k0 := 1) kc_11 (by decide +kernel) (Nat.le_of_ble_eq_true rfl) tw_488 d_X11_init_12 rfl rfl rfl rfl ?_
  show AW (m_X11_init (d + 2) 99 30357) 2 258 15 [(0, .ref 0)] [] G3 (kV _)
  refine aw_aload_n (i := 0) rfl d_X11_init_15 0 rfl ?_
  refine aw_new (ci := 8) 11 kc_8 tw_52 tw_53 tw_3 (by decide +kernel) (by decide) xs0 (show 2 + 1 ≤ 99 from by decide +kernel) (show 258 + 10 ≤ 30357 from by decide +kernel) d_X11_init_16 ?_
  show AW (m_X11_init (d + 2) 99 30357) 3 268 19 [(0, .ref 0)] [.ref 11, .ref 0] G4 (kV _)
  refine aw_dup d_X11_init_19 rfl ?_
  refine aw_callIN (vs := []) (a := 11) (rest := [.ref 11, .ref 0]) d_X11_init_20 (cI_X8_init (d + 1) 3 474) ⟨rfl, rfl⟩ tw_55 (List.mem_of_getElem? (i := 0) rfl) rfl ⟨show d + 1 + 1 ≤ d + 2 by omega, show 8 + (1 + 11) + 100 * (d + 1) ≤ 100 * (d + 2) by omega⟩ (by decide) ⟨show 3 + 3 ≤ 99 from by decide +kernel, show 268 + 474 ≤ 30357 from by decide +kernel⟩ xs0 (k_X8_init_11 d G4 (by decide +kernel) (rng_none (by decide +kernel))) (fun v h9 kk => ?_)
  obtain ⟨rfl, rfl⟩ := kk
  show AW (m_X11_init (d + 2) 99 30357) 6 742 23 [(0, .ref 0)] [.ref 11, .ref 0] G5 (kV _)
  refine aw_putrF (k0 := 2) kc_11 (by decide +kernel) (Nat.le_of_ble_eq_true rfl) tw_489 d_X11_init_23 rfl rfl rfl rfl ?_
  show AW (m_X11_init (d + 2) 99 30357) 6 742 26 [(0, .ref 0)] [] G6 (kV _)
  refine aw_aload_n (i := 0) rfl d_X11_init_26 0 rfl ?_
  refine aw_new (ci := 0) 12 kc_0 tw_97 tw_98 tw_4 (by decide +kernel) (by decide) xs0 (show 6 + 1 ≤ 99 from by decide +kernel) (show 742 + 4 ≤ 30357 from by decide +kernel) d_X11_init_27 ?_
  show AW (m_X11_init (d + 2) 99 30357) 7 746 30 [(0, .ref 0)] [.ref 12, .ref 0] G7 (kV _)
  refine aw_dup d_X11_init_30 rfl ?_
  refine aw_callIN (vs := []) (a := 12) (rest := [.ref 12, .ref 0]) d_X11_init_31 (cI_X0_init (d + 1) 3 1824) ⟨rfl, rfl⟩ tw_100 (List.mem_of_getElem? (i := 1) rfl) rfl ⟨show d + 1 + 1 ≤ d + 2 by omega, show 8 + (1 + 11) + 100 * (d + 1) ≤ 100 * (d + 2) by omega⟩ (by decide) ⟨show 7 + 3 ≤ 99 from by decide +kernel, show 746 + 1824 ≤ 30357 from by decide +kernel⟩ xs0 (k_X0_init_12 d G7 (by decide +kernel) (rng_none (by decide +kernel))) (fun v h9 kk => ?_)
  obtain ⟨rfl, rfl⟩ := kk
  show AW (m_X11_init (d + 2) 99 30357) 10 2570 34 [(0, .ref 0)] [.ref 12, .ref 0] G8 (kV _)
  refine aw_putrF (k0 := 3) kc_11 (by decide +kernel) (Nat.le_of_ble_eq_true rfl) tw_490 d_X11_init_34 rfl rfl rfl rfl ?_
  show AW (m_X11_init (d + 2) 99 30357) 10 2570 37 [(0, .ref 0)] [] G9 (kV _)
  refine aw_aload_n (i := 0) rfl d_X11_init_37 0 rfl ?_
  refine aw_new (ci := 10) 13 kc_10 tw_118 tw_119 tw_5 (by decide +kernel) (by decide) xs0 (show 10 + 1 ≤ 99 from by decide +kernel) (show 2570 + 6 ≤ 30357 from by decide +kernel) d_X11_init_38 ?_
  show AW (m_X11_init (d + 2) 99 30357) 11 2576 41 [(0, .ref 0)] [.ref 13, .ref 0] G10 (kV _)
  refine aw_dup d_X11_init_41 rfl ?_
  refine aw_callIN (vs := []) (a := 13) (rest := [.ref 13, .ref 0]) d_X11_init_42 (cI_X10_init (d + 1) 5 3504) ⟨rfl, rfl⟩ tw_121 (List.mem_of_getElem? (i := 2) rfl) rfl ⟨show d + 1 + 1 ≤ d + 2 by omega, show 8 + (1 + 11) + 100 * (d + 1) ≤ 100 * (d + 2) by omega⟩ (by decide) ⟨show 11 + 5 ≤ 99 from by decide +kernel, show 2576 + 3504 ≤ 30357 from by decide +kernel⟩ xs0 (k_X10_init_13 d G10 (by decide +kernel) (rng_none (by decide +kernel))) (fun v h9 kk => ?_)
  obtain ⟨rfl, rfl⟩ := kk
  show AW (m_X11_init (d + 2) 99 30357) 16 6080 45 [(0, .ref 0)] [.ref 13, .ref 0] G11 (kV _)
  refine aw_putrF (k0 := 4) kc_11 (by decide +kernel) (Nat.le_of_ble_eq_true rfl) tw_491 d_X11_init_45 rfl rfl rfl rfl ?_
  show AW (m_X11_init (d + 2) 99 30357) 16 6080 48 [(0, .ref 0)] [] G12 (kV _)
  refine aw_aload_n (i := 0) rfl d_X11_init_48 0 rfl ?_
  refine aw_new (ci := 10) 14 kc_10 tw_118 tw_119 tw_5 (by decide +kernel) (by decide) xs0 (show 16 + 1 ≤ 99 from by decide +kernel) (show 6080 + 6 ≤ 30357 from by decide +kernel) d_X11_init_49 ?_
  show AW (m_X11_init (d + 2) 99 30357) 17 6086 52 [(0, .ref 0)] [.ref 14, .ref 0] G13 (kV _)
  refine aw_dup d_X11_init_52 rfl ?_
  refine aw_callIN (vs := []) (a := 14) (rest := [.ref 14, .ref 0]) d_X11_init_53 (cI_X10_init (d + 1) 5 3504) ⟨rfl, rfl⟩ tw_121 (List.mem_of_getElem? (i := 2) rfl) rfl ⟨show d + 1 + 1 ≤ d + 2 by omega, show 8 + (1 + 11) + 100 * (d + 1) ≤ 100 * (d + 2) by omega⟩ (by decide) ⟨show 17 + 5 ≤ 99 from by decide +kernel, show 6086 + 3504 ≤ 30357 from by decide +kernel⟩ xs0 (k_X10_init_14 d G13 (by decide +kernel) (rng_none (by decide +kernel))) (fun v h9 kk => ?_)
  obtain ⟨rfl, rfl⟩ := kk
  show AW (m_X11_init (d + 2) 99 30357) 22 9590 56 [(0, .ref 0)] [.ref 14, .ref 0] G14 (kV _)
  refine aw_putrF (k0 := 5) kc_11 (by decide +kernel) (Nat.le_of_ble_eq_true rfl) tw_492 d_X11_init_56 rfl rfl rfl rfl ?_
  show AW (m_X11_init (d + 2) 99 30357) 22 9590 59 [(0, .ref 0)] [] G15 (kV _)
  refine aw_aload_n (i := 0) rfl d_X11_init_59 0 rfl ?_
  refine aw_bipush (v := 12) d_X11_init_60 ib_12 ?_
  refine aw_newq 15 12 tw_144 (by decide +kernel) (by decide) xs0 (by decide) (by decide) (by decide) (show 22 + 1 ≤ 99 from by decide +kernel) (show 9590 + 12 ≤ 30357 from by decide +kernel) d_X11_init_62 ?_
  show AW (m_X11_init (d + 2) 99 30357) 23 9602 65 [(0, .ref 0)] [.ref 15, .ref 0] G16 (kV _)
  refine aw_putrF (k0 := 6) kc_11 (by decide +kernel) (Nat.le_of_ble_eq_true rfl) tw_493 d_X11_init_65 rfl rfl rfl rfl ?_
  show AW (m_X11_init (d + 2) 99 30357) 23 9602 68 [(0, .ref 0)] [] G17 (kV _)
  refine aw_aload_n (i := 0) rfl d_X11_init_68 0 rfl ?_
  refine aw_new (ci := 7) 16 kc_7 tw_146 tw_147 tw_6 (by decide +kernel) (by decide) xs0 (show 23 + 1 ≤ 99 from by decide +kernel) (show 9602 + 12 ≤ 30357 from by decide +kernel) d_X11_init_69 ?_
  show AW (m_X11_init (d + 2) 99 30357) 24 9614 72 [(0, .ref 0)] [.ref 16, .ref 0] G18 (kV _)
  refine aw_dup d_X11_init_72 rfl ?_
  refine aw_callIN (vs := []) (a := 16) (rest := [.ref 16, .ref 0]) d_X11_init_73 (cI_X7_init (d + 1) 10 3400) ⟨rfl, rfl⟩ tw_149 (List.mem_of_getElem? (i := 3) rfl) rfl ⟨show d + 1 + 1 ≤ d + 2 by omega, show 8 + (1 + 11) + 100 * (d + 1) ≤ 100 * (d + 2) by omega⟩ (by decide) ⟨show 24 + 10 ≤ 99 from by decide +kernel, show 9614 + 3400 ≤ 30357 from by decide +kernel⟩ xs0 (k_X7_init_16 d G18 (by decide +kernel) (rng_none (by decide +kernel))) (fun v h9 kk => ?_)
  obtain ⟨rfl, rfl⟩ := kk
  show AW (m_X11_init (d + 2) 99 30357) 34 13014 76 [(0, .ref 0)] [.ref 16, .ref 0] G19 (kV _)
  refine aw_putrF (k0 := 8) kc_11 (by decide +kernel) (Nat.le_of_ble_eq_true rfl) tw_495 d_X11_init_76 rfl rfl rfl rfl ?_
  show AW (m_X11_init (d + 2) 99 30357) 34 13014 79 [(0, .ref 0)] [] G20 (kV _)
  refine aw_aload_n (i := 0) rfl d_X11_init_79 0 rfl ?_
  refine aw_new (ci := 4) 17 kc_4 tw_190 tw_191 tw_7 (by decide +kernel) (by decide) xs0 (show 34 + 1 ≤ 99 from by decide +kernel) (show 13014 + 17 ≤ 30357 from by decide +kernel) d_X11_init_80 ?_
  show AW (m_X11_init (d + 2) 99 30357) 35 13031 83 [(0, .ref 0)] [.ref 17, .ref 0] G21 (kV _)
  refine aw_dup d_X11_init_83 rfl ?_
  refine aw_callIN (vs := []) (a := 17) (rest := [.ref 17, .ref 0]) d_X11_init_84 (cI_X4_init (d + 1) 14 5060) ⟨rfl, rfl⟩ tw_193 (List.mem_of_getElem? (i := 4) rfl) rfl ⟨show d + 1 + 1 ≤ d + 2 by omega, show 8 + (1 + 11) + 100 * (d + 1) ≤ 100 * (d + 2) by omega⟩ (by decide) ⟨show 35 + 14 ≤ 99 from by decide +kernel, show 13031 + 5060 ≤ 30357 from by decide +kernel⟩ xs0 (k_X4_init_17 d G21 (by decide +kernel) (rng_none (by decide +kernel))) (fun v h9 kk => ?_)
  obtain ⟨rfl, rfl⟩ := kk
  show AW (m_X11_init (d + 2) 99 30357) 49 18091 87 [(0, .ref 0)] [.ref 17, .ref 0] G22 (kV _)
  refine aw_putrF (k0 := 9) kc_11 (by decide +kernel) (Nat.le_of_ble_eq_true rfl) tw_496 d_X11_init_87 rfl rfl rfl rfl ?_
  show AW (m_X11_init (d + 2) 99 30357) 49 18091 90 [(0, .ref 0)] [] G23 (kV _)
  refine aw_aload_n (i := 0) rfl d_X11_init_90 0 rfl ?_
  refine aw_new (ci := 1) 18 kc_1 tw_253 tw_254 tw_8 (by decide +kernel) (by decide) xs0 (show 49 + 1 ≤ 99 from by decide +kernel) (show 18091 + 16 ≤ 30357 from by decide +kernel) d_X11_init_91 ?_
  show AW (m_X11_init (d + 2) 99 30357) 50 18107 94 [(0, .ref 0)] [.ref 18, .ref 0] G24 (kV _)
  refine aw_dup d_X11_init_94 rfl ?_
  refine aw_callI (vs := []) (a := 18) (rest := [.ref 18, .ref 0]) d_X11_init_95 (cI_X1_init (d + 1) 14 1110) ⟨rfl, rfl⟩ tw_256 tw_255 rfl ⟨show d + 1 + 1 ≤ d + 2 by omega, show 8 + (1 + 11) + 100 * (d + 1) ≤ 100 * (d + 2) by omega⟩ (by decide) ⟨show 50 + 14 ≤ 99 from by decide +kernel, show 18107 + 1110 ≤ 30357 from by decide +kernel⟩ xs0 (k_X1_init_18 d G24 (by decide +kernel) (rng_none (by decide +kernel))) (fun v h9 kk => ?_)
  obtain ⟨rfl, rfl⟩ := kk
  show AW (m_X11_init (d + 2) 99 30357) 64 19217 98 [(0, .ref 0)] [.ref 18, .ref 0] G25 (kV _)
  refine aw_putrF (k0 := 10) kc_11 (by decide +kernel) (Nat.le_of_ble_eq_true rfl) tw_497 d_X11_init_98 rfl rfl rfl rfl ?_
  show AW (m_X11_init (d + 2) 99 30357) 64 19217 101 [(0, .ref 0)] [] G26 (kV _)
  refine aw_aload_n (i := 0) rfl d_X11_init_101 0 rfl ?_
  refine aw_new (ci := 3) 19 kc_3 tw_315 tw_316 tw_10 (by decide +kernel) (by decide) xs0 (show 64 + 1 ≤ 99 from by decide +kernel) (show 19217 + 11 ≤ 30357 from by decide +kernel) d_X11_init_102 ?_
  show AW (m_X11_init (d + 2) 99 30357) 65 19228 105 [(0, .ref 0)] [.ref 19, .ref 0] G27 (kV _)
  refine aw_dup d_X11_init_105 rfl ?_
  refine aw_callIN (vs := []) (a := 19) (rest := [.ref 19, .ref 0]) d_X11_init_106 (cI_X3_init (d + 1) 7 4704) ⟨rfl, rfl⟩ tw_318 (List.mem_of_getElem? (i := 5) rfl) rfl ⟨show d + 1 + 1 ≤ d + 2 by omega, show 8 + (1 + 11) + 100 * (d + 1) ≤ 100 * (d + 2) by omega⟩ (by decide) ⟨show 65 + 7 ≤ 99 from by decide +kernel, show 19228 + 4704 ≤ 30357 from by decide +kernel⟩ xs0 (k_X3_init_19 d G27 (by decide +kernel) (rng_none (by decide +kernel))) (fun v h9 kk => ?_)
  obtain ⟨rfl, rfl⟩ := kk
  show AW (m_X11_init (d + 2) 99 30357) 72 23932 109 [(0, .ref 0)] [.ref 19, .ref 0] G28 (kV _)
  refine aw_putrF (k0 := 11) kc_11 (by decide +kernel) (Nat.le_of_ble_eq_true rfl) tw_498 d_X11_init_109 rfl rfl rfl rfl ?_
  show AW (m_X11_init (d + 2) 99 30357) 72 23932 112 [(0, .ref 0)] [] G29 (kV _)
  refine aw_aload_n (i := 0) rfl d_X11_init_112 0 rfl ?_
  refine aw_new (ci := 6) 20 kc_6 tw_357 tw_358 tw_11 (by decide +kernel) (by decide) xs0 (show 72 + 1 ≤ 99 from by decide +kernel) (show 23932 + 20 ≤ 30357 from by decide +kernel) d_X11_init_113 ?_
  show AW (m_X11_init (d + 2) 99 30357) 73 23952 116 [(0, .ref 0)] [.ref 20, .ref 0] G30 (kV _)
  refine aw_dup d_X11_init_116 rfl ?_
  refine aw_callIN (vs := []) (a := 20) (rest := [.ref 20, .ref 0]) d_X11_init_117 (cI_X6_init (d + 1) 12 3439) ⟨rfl, rfl⟩ tw_360 (List.mem_of_getElem? (i := 6) rfl) rfl ⟨show d + 1 + 1 ≤ d + 2 by omega, show 8 + (1 + 11) + 100 * (d + 1) ≤ 100 * (d + 2) by omega⟩ (by decide) ⟨show 73 + 12 ≤ 99 from by decide +kernel, show 23952 + 3439 ≤ 30357 from by decide +kernel⟩ xs0 (k_X6_init_20 d G30 (by decide +kernel) (rng_none (by decide +kernel))) (fun v h9 kk => ?_)
  obtain ⟨rfl, rfl⟩ := kk
  show AW (m_X11_init (d + 2) 99 30357) 85 27391 120 [(0, .ref 0)] [.ref 20, .ref 0] G31 (kV _)
  refine aw_putrF (k0 := 12) kc_11 (by decide +kernel) (Nat.le_of_ble_eq_true rfl) tw_499 d_X11_init_120 rfl rfl rfl rfl ?_
  show AW (m_X11_init (d + 2) 99 30357) 85 27391 123 [(0, .ref 0)] [] G32 (kV _)
  refine aw_aload_n (i := 0) rfl d_X11_init_123 0 rfl ?_
  refine aw_new (ci := 5) 21 kc_5 tw_427 tw_428 tw_12 (by decide +kernel) (by decide) xs0 (show 85 + 1 ≤ 99 from by decide +kernel) (show 27391 + 16 ≤ 30357 from by decide +kernel) d_X11_init_124 ?_
  show AW (m_X11_init (d + 2) 99 30357) 86 27407 127 [(0, .ref 0)] [.ref 21, .ref 0] G33 (kV _)
  refine aw_dup d_X11_init_127 rfl ?_
  refine aw_callI (vs := []) (a := 21) (rest := [.ref 21, .ref 0]) d_X11_init_128 (cI_X5_init (d + 1) 12 2950) ⟨rfl, rfl⟩ tw_430 tw_429 rfl ⟨show d + 1 + 1 ≤ d + 2 by omega, show 8 + (1 + 11) + 100 * (d + 1) ≤ 100 * (d + 2) by omega⟩ (by decide) ⟨show 86 + 12 ≤ 99 from by decide +kernel, show 27407 + 2950 ≤ 30357 from by decide +kernel⟩ xs0 (k_X5_init_21 d G33 (by decide +kernel) (rng_none (by decide +kernel))) (fun v h9 kk => ?_)
  obtain ⟨rfl, rfl⟩ := kk
  show AW (m_X11_init (d + 2) 99 30357) 98 30357 131 [(0, .ref 0)] [.ref 21, .ref 0] G34 (kV _)
  refine aw_putrF (k0 := 13) kc_11 (by decide +kernel) (Nat.le_of_ble_eq_true rfl) tw_500 d_X11_init_131 rfl rfl rfl rfl ?_
  show AW (m_X11_init (d + 2) 99 30357) 98 30357 134 [(0, .ref 0)] [] G35 (kV _)
  refine aw_aload_n (i := 0) rfl d_X11_init_134 0 rfl ?_
  refine aw_iconst (v := 0) d_X11_init_135 ic_0 ?_
  refine aw_newa (t := 3) (atype := .long) 400 0 (by decide) rfl tw_426 (by decide +kernel) (by decide) xs0 (by decide) (by decide) (by decide) (show 98 + 1 ≤ 99 from by decide +kernel) (show 30357 + 0 ≤ 30357 from by decide +kernel) d_X11_init_136 ?_
  show AW (m_X11_init (d + 2) 99 30357) 99 30357 138 [(0, .ref 0)] [.ref 400, .ref 0] G36 (kV _)
  refine aw_putr (k0 := 15) kc_11 (by decide +kernel) (Nat.le_of_ble_eq_true rfl) tw_502 d_X11_init_138 rfl rfl ?_
  show AW (m_X11_init (d + 2) 99 30357) 99 30357 141 [(0, .ref 0)] [] G37 (kV _)
  exact aw_vret rfl d_X11_init_141 ⟨show 99 ≤ 99 from Nat.le_refl _, show 30357 ≤ 30357 from Nat.le_refl _⟩ ⟨rfl, rfl⟩
noncomputable def GM0 : Hp_ := h_nw G37 1 22 131
noncomputable def HF : Hp_ := h_nw (CH_1 GM0) 2 3 1
theorem wHF : Wf HF := by
  have h1 : shL.all (fun q => decide (h_sh HF q.1 = some q.2)) = true := by decide +kernel
  have h2 : rfL.all (fun q => decide (h_r HF q.1 q.2.1 = some q.2.2)) = true := by decide +kernel
  exact ⟨fun q hq => of_decide_eq_true (List.all_eq_true.mp h1 q hq), fun q hq => of_decide_eq_true (List.all_eq_true.mp h2 q hq)⟩
end
section
theorem d_L_40 : decode code 40 = .ok (.tableswitch 2366 0 56 #[244, 293, 330, 379, 452, 477, 502, 515, 552, 589, 638, 691, 716, 756, 793, 842, 879, 916, 989, 1014, 1051, 1088, 1125, 1150, 1175, 1212, 1249, 1326, 1351, 1400, 1449, 1498, 1523, 1576, 1601, 1614, 1639, 1664, 1689, 1738, 1775, 1800, 1837, 1886, 1911, 1936, 1947, 1972, 2021, 2070, 2119, 2132, 2169, 2218, 2243, 2280, 2341], 244) := by decide +kernel
theorem db67e_0 : Pf_ code [(0, [0xbb, 0x00, 0x08]), (3, [0x59]), (4, [0xb7, 0x00, 0x0f]), (7, [0x4c]), (8, [0xbb, 0x00, 0x10]), (11, [0x59]), (12, [0xb7, 0x00, 0x12]), (15, [0x4d]), (16, [0x04]), (17, [0xbc, 0x0b]), (19, [0x4e]), (20, [0x03]), (21, [0x36, 0x04]), (23, [0x15, 0x04]), (25, [0x2a]), (26, [0xbe]), (27, [0x10, 0x06]), (29, [0x64]), (30, [0xa3, 0x09, 0x4e]), (33, [0x2a]), (34, [0x15, 0x04]), (36, [0x2e]), (37, [0x10, 0x3f]), (39, [0x7e])] := pf_ok code _ 0 (by decide +kernel)
noncomputable def d_L_0 := gq_0 db67e_0 eb_1407
noncomputable def d_L_3 := gq_1 db67e_0 eb_47
noncomputable def d_L_4 := gq_2 db67e_0 eb_1408
noncomputable def d_L_7 := gq_3 db67e_0 eb_1409
noncomputable def d_L_8 := gq_4 db67e_0 eb_603
noncomputable def d_L_11 := gq_5 db67e_0 eb_47
noncomputable def d_L_12 := gq_6 db67e_0 eb_604
noncomputable def d_L_15 := gq_7 db67e_0 eb_1399
noncomputable def d_L_16 := gq_8 db67e_0 eb_20
noncomputable def d_L_17 := gq_9 db67e_0 eb_352
noncomputable def d_L_19 := gq_10 db67e_0 eb_650
noncomputable def d_L_20 := gq_11 db67e_0 eb_22
noncomputable def d_L_21 := gq_12 db67e_0 eb_134
noncomputable def d_L_23 := gq_13 db67e_0 eb_77
noncomputable def d_L_25 := gq_14 db67e_0 eb_0
noncomputable def d_L_26 := gq_15 db67e_0 eb_53
noncomputable def d_L_27 := gq_16 db67e_0 eb_15
noncomputable def d_L_29 := gq_17 db67e_0 eb_49
noncomputable def d_L_30 := gq_18 db67e_0 eb_1410
noncomputable def d_L_33 := gq_19 db67e_0 eb_0
noncomputable def d_L_34 := gq_20 db67e_0 eb_77
noncomputable def d_L_36 := gq_21 db67e_0 eb_38
noncomputable def d_L_37 := gq_22 db67e_0 eb_514
noncomputable def d_L_39 := gq_23 db67e_0 eb_56
theorem db67e_1 : Pf_ code [(284, [0x2b]), (285, [0x2a]), (286, [0x15, 0x04]), (288, [0x04]), (289, [0x60]), (290, [0x2e]), (291, [0x2a]), (292, [0x15, 0x04]), (294, [0x05]), (295, [0x60]), (296, [0x2e]), (297, [0x2a]), (298, [0x15, 0x04]), (300, [0x06]), (301, [0x60]), (302, [0x2e]), (303, [0xb6, 0x00, 0x13]), (306, [0x57]), (307, [0x2c]), (308, [0x2a]), (309, [0x15, 0x04]), (311, [0x04]), (312, [0x60]), (313, [0x2e])] := pf_ok code _ 284 (by decide +kernel)
noncomputable def d_L_284 := gq_0 db67e_1 eb_24
noncomputable def d_L_285 := gq_1 db67e_1 eb_0
noncomputable def d_L_286 := gq_2 db67e_1 eb_77
noncomputable def d_L_288 := gq_3 db67e_1 eb_20
noncomputable def d_L_289 := gq_4 db67e_1 eb_36
noncomputable def d_L_290 := gq_5 db67e_1 eb_38
noncomputable def d_L_291 := gq_6 db67e_1 eb_0
noncomputable def d_L_292 := gq_7 db67e_1 eb_77
noncomputable def d_L_294 := gq_8 db67e_1 eb_11
noncomputable def d_L_295 := gq_9 db67e_1 eb_36
noncomputable def d_L_296 := gq_10 db67e_1 eb_38
noncomputable def d_L_297 := gq_11 db67e_1 eb_0
noncomputable def d_L_298 := gq_12 db67e_1 eb_77
noncomputable def d_L_300 := gq_13 db67e_1 eb_55
noncomputable def d_L_301 := gq_14 db67e_1 eb_36
noncomputable def d_L_302 := gq_15 db67e_1 eb_38
noncomputable def d_L_303 := gq_16 db67e_1 eb_1411
noncomputable def d_L_306 := gq_17 db67e_1 eb_483
noncomputable def d_L_307 := gq_18 db67e_1 eb_304
noncomputable def d_L_308 := gq_19 db67e_1 eb_0
noncomputable def d_L_309 := gq_20 db67e_1 eb_77
noncomputable def d_L_311 := gq_21 db67e_1 eb_20
noncomputable def d_L_312 := gq_22 db67e_1 eb_36
noncomputable def d_L_313 := gq_23 db67e_1 eb_38
theorem db67e_2 : Pf_ code [(314, [0x2a]), (315, [0x15, 0x04]), (317, [0x05]), (318, [0x60]), (319, [0x2e]), (320, [0x2a]), (321, [0x15, 0x04]), (323, [0x06]), (324, [0x60]), (325, [0x2e]), (326, [0xb6, 0x00, 0x17]), (329, [0x57]), (330, [0xa7, 0x08, 0x1c]), (333, [0x2b]), (334, [0x2a]), (335, [0x15, 0x04]), (337, [0x04]), (338, [0x60]), (339, [0x2e]), (340, [0x2a]), (341, [0x15, 0x04]), (343, [0x05]), (344, [0x60]), (345, [0x2e])] := pf_ok code _ 314 (by decide +kernel)
noncomputable def d_L_314 := gq_0 db67e_2 eb_0
noncomputable def d_L_315 := gq_1 db67e_2 eb_77
noncomputable def d_L_317 := gq_2 db67e_2 eb_11
noncomputable def d_L_318 := gq_3 db67e_2 eb_36
noncomputable def d_L_319 := gq_4 db67e_2 eb_38
noncomputable def d_L_320 := gq_5 db67e_2 eb_0
noncomputable def d_L_321 := gq_6 db67e_2 eb_77
noncomputable def d_L_323 := gq_7 db67e_2 eb_55
noncomputable def d_L_324 := gq_8 db67e_2 eb_36
noncomputable def d_L_325 := gq_9 db67e_2 eb_38
noncomputable def d_L_326 := gq_10 db67e_2 eb_1412
noncomputable def d_L_329 := gq_11 db67e_2 eb_483
noncomputable def d_L_330 := gq_12 db67e_2 eb_1413
noncomputable def d_L_333 := gq_13 db67e_2 eb_24
noncomputable def d_L_334 := gq_14 db67e_2 eb_0
noncomputable def d_L_335 := gq_15 db67e_2 eb_77
noncomputable def d_L_337 := gq_16 db67e_2 eb_20
noncomputable def d_L_338 := gq_17 db67e_2 eb_36
noncomputable def d_L_339 := gq_18 db67e_2 eb_38
noncomputable def d_L_340 := gq_19 db67e_2 eb_0
noncomputable def d_L_341 := gq_20 db67e_2 eb_77
noncomputable def d_L_343 := gq_21 db67e_2 eb_11
noncomputable def d_L_344 := gq_22 db67e_2 eb_36
noncomputable def d_L_345 := gq_23 db67e_2 eb_38
theorem db67e_3 : Pf_ code [(346, [0xb6, 0x00, 0x18]), (349, [0x57]), (350, [0x2c]), (351, [0x2a]), (352, [0x15, 0x04]), (354, [0x04]), (355, [0x60]), (356, [0x2e]), (357, [0x2a]), (358, [0x15, 0x04]), (360, [0x05]), (361, [0x60]), (362, [0x2e]), (363, [0xb6, 0x00, 0x1b]), (366, [0x57]), (367, [0xa7, 0x07, 0xf7]), (370, [0x2b]), (371, [0x2a]), (372, [0x15, 0x04]), (374, [0x04]), (375, [0x60]), (376, [0x2e]), (377, [0x2a]), (378, [0x15, 0x04])] := pf_ok code _ 346 (by decide +kernel)
noncomputable def d_L_346 := gq_0 db67e_3 eb_1414
noncomputable def d_L_349 := gq_1 db67e_3 eb_483
noncomputable def d_L_350 := gq_2 db67e_3 eb_304
noncomputable def d_L_351 := gq_3 db67e_3 eb_0
noncomputable def d_L_352 := gq_4 db67e_3 eb_77
noncomputable def d_L_354 := gq_5 db67e_3 eb_20
noncomputable def d_L_355 := gq_6 db67e_3 eb_36
noncomputable def d_L_356 := gq_7 db67e_3 eb_38
noncomputable def d_L_357 := gq_8 db67e_3 eb_0
noncomputable def d_L_358 := gq_9 db67e_3 eb_77
noncomputable def d_L_360 := gq_10 db67e_3 eb_11
noncomputable def d_L_361 := gq_11 db67e_3 eb_36
noncomputable def d_L_362 := gq_12 db67e_3 eb_38
noncomputable def d_L_363 := gq_13 db67e_3 eb_1415
noncomputable def d_L_366 := gq_14 db67e_3 eb_483
noncomputable def d_L_367 := gq_15 db67e_3 eb_1416
noncomputable def d_L_370 := gq_16 db67e_3 eb_24
noncomputable def d_L_371 := gq_17 db67e_3 eb_0
noncomputable def d_L_372 := gq_18 db67e_3 eb_77
noncomputable def d_L_374 := gq_19 db67e_3 eb_20
noncomputable def d_L_375 := gq_20 db67e_3 eb_36
noncomputable def d_L_376 := gq_21 db67e_3 eb_38
noncomputable def d_L_377 := gq_22 db67e_3 eb_0
noncomputable def d_L_378 := gq_23 db67e_3 eb_77
theorem db67e_4 : Pf_ code [(380, [0x05]), (381, [0x60]), (382, [0x2e]), (383, [0x2a]), (384, [0x15, 0x04]), (386, [0x06]), (387, [0x60]), (388, [0x2e]), (389, [0xb6, 0x00, 0x1c]), (392, [0x57]), (393, [0x2c]), (394, [0x2a]), (395, [0x15, 0x04]), (397, [0x04]), (398, [0x60]), (399, [0x2e]), (400, [0x2a]), (401, [0x15, 0x04]), (403, [0x05]), (404, [0x60]), (405, [0x2e]), (406, [0x2a]), (407, [0x15, 0x04]), (409, [0x06])] := pf_ok code _ 380 (by decide +kernel)
noncomputable def d_L_380 := gq_0 db67e_4 eb_11
noncomputable def d_L_381 := gq_1 db67e_4 eb_36
noncomputable def d_L_382 := gq_2 db67e_4 eb_38
noncomputable def d_L_383 := gq_3 db67e_4 eb_0
noncomputable def d_L_384 := gq_4 db67e_4 eb_77
noncomputable def d_L_386 := gq_5 db67e_4 eb_55
noncomputable def d_L_387 := gq_6 db67e_4 eb_36
noncomputable def d_L_388 := gq_7 db67e_4 eb_38
noncomputable def d_L_389 := gq_8 db67e_4 eb_1417
noncomputable def d_L_392 := gq_9 db67e_4 eb_483
noncomputable def d_L_393 := gq_10 db67e_4 eb_304
noncomputable def d_L_394 := gq_11 db67e_4 eb_0
noncomputable def d_L_395 := gq_12 db67e_4 eb_77
noncomputable def d_L_397 := gq_13 db67e_4 eb_20
noncomputable def d_L_398 := gq_14 db67e_4 eb_36
noncomputable def d_L_399 := gq_15 db67e_4 eb_38
noncomputable def d_L_400 := gq_16 db67e_4 eb_0
noncomputable def d_L_401 := gq_17 db67e_4 eb_77
noncomputable def d_L_403 := gq_18 db67e_4 eb_11
noncomputable def d_L_404 := gq_19 db67e_4 eb_36
noncomputable def d_L_405 := gq_20 db67e_4 eb_38
noncomputable def d_L_406 := gq_21 db67e_4 eb_0
noncomputable def d_L_407 := gq_22 db67e_4 eb_77
noncomputable def d_L_409 := gq_23 db67e_4 eb_55
theorem db67e_5 : Pf_ code [(410, [0x60]), (411, [0x2e]), (412, [0xb6, 0x00, 0x1f]), (415, [0x57]), (416, [0xa7, 0x07, 0xc6]), (419, [0x2b]), (420, [0x2a]), (421, [0x15, 0x04]), (423, [0x04]), (424, [0x60]), (425, [0x2e]), (426, [0x2a]), (427, [0x15, 0x04]), (429, [0x05]), (430, [0x60]), (431, [0x2e]), (432, [0x2a]), (433, [0x15, 0x04]), (435, [0x06]), (436, [0x60]), (437, [0x2e]), (438, [0x2a]), (439, [0x15, 0x04]), (441, [0x07])] := pf_ok code _ 410 (by decide +kernel)
noncomputable def d_L_410 := gq_0 db67e_5 eb_36
noncomputable def d_L_411 := gq_1 db67e_5 eb_38
noncomputable def d_L_412 := gq_2 db67e_5 eb_1418
noncomputable def d_L_415 := gq_3 db67e_5 eb_483
noncomputable def d_L_416 := gq_4 db67e_5 eb_1419
noncomputable def d_L_419 := gq_5 db67e_5 eb_24
noncomputable def d_L_420 := gq_6 db67e_5 eb_0
noncomputable def d_L_421 := gq_7 db67e_5 eb_77
noncomputable def d_L_423 := gq_8 db67e_5 eb_20
noncomputable def d_L_424 := gq_9 db67e_5 eb_36
noncomputable def d_L_425 := gq_10 db67e_5 eb_38
noncomputable def d_L_426 := gq_11 db67e_5 eb_0
noncomputable def d_L_427 := gq_12 db67e_5 eb_77
noncomputable def d_L_429 := gq_13 db67e_5 eb_11
noncomputable def d_L_430 := gq_14 db67e_5 eb_36
noncomputable def d_L_431 := gq_15 db67e_5 eb_38
noncomputable def d_L_432 := gq_16 db67e_5 eb_0
noncomputable def d_L_433 := gq_17 db67e_5 eb_77
noncomputable def d_L_435 := gq_18 db67e_5 eb_55
noncomputable def d_L_436 := gq_19 db67e_5 eb_36
noncomputable def d_L_437 := gq_20 db67e_5 eb_38
noncomputable def d_L_438 := gq_21 db67e_5 eb_0
noncomputable def d_L_439 := gq_22 db67e_5 eb_77
noncomputable def d_L_441 := gq_23 db67e_5 eb_294
theorem db67e_6 : Pf_ code [(442, [0x60]), (443, [0x2e]), (444, [0x2a]), (445, [0x15, 0x04]), (447, [0x08]), (448, [0x60]), (449, [0x2e]), (450, [0xb6, 0x00, 0x20]), (453, [0x57]), (454, [0x2c]), (455, [0x2a]), (456, [0x15, 0x04]), (458, [0x04]), (459, [0x60]), (460, [0x2e]), (461, [0x2a]), (462, [0x15, 0x04]), (464, [0x05]), (465, [0x60]), (466, [0x2e]), (467, [0x2a]), (468, [0x15, 0x04]), (470, [0x06]), (471, [0x60])] := pf_ok code _ 442 (by decide +kernel)
noncomputable def d_L_442 := gq_0 db67e_6 eb_36
noncomputable def d_L_443 := gq_1 db67e_6 eb_38
noncomputable def d_L_444 := gq_2 db67e_6 eb_0
noncomputable def d_L_445 := gq_3 db67e_6 eb_77
noncomputable def d_L_447 := gq_4 db67e_6 eb_123
noncomputable def d_L_448 := gq_5 db67e_6 eb_36
noncomputable def d_L_449 := gq_6 db67e_6 eb_38
noncomputable def d_L_450 := gq_7 db67e_6 eb_1420
noncomputable def d_L_453 := gq_8 db67e_6 eb_483
noncomputable def d_L_454 := gq_9 db67e_6 eb_304
noncomputable def d_L_455 := gq_10 db67e_6 eb_0
noncomputable def d_L_456 := gq_11 db67e_6 eb_77
noncomputable def d_L_458 := gq_12 db67e_6 eb_20
noncomputable def d_L_459 := gq_13 db67e_6 eb_36
noncomputable def d_L_460 := gq_14 db67e_6 eb_38
noncomputable def d_L_461 := gq_15 db67e_6 eb_0
noncomputable def d_L_462 := gq_16 db67e_6 eb_77
noncomputable def d_L_464 := gq_17 db67e_6 eb_11
noncomputable def d_L_465 := gq_18 db67e_6 eb_36
noncomputable def d_L_466 := gq_19 db67e_6 eb_38
noncomputable def d_L_467 := gq_20 db67e_6 eb_0
noncomputable def d_L_468 := gq_21 db67e_6 eb_77
noncomputable def d_L_470 := gq_22 db67e_6 eb_55
noncomputable def d_L_471 := gq_23 db67e_6 eb_36
theorem db67e_7 : Pf_ code [(472, [0x2e]), (473, [0x2a]), (474, [0x15, 0x04]), (476, [0x07]), (477, [0x60]), (478, [0x2e]), (479, [0x2a]), (480, [0x15, 0x04]), (482, [0x08]), (483, [0x60]), (484, [0x2e]), (485, [0xb6, 0x00, 0x24]), (488, [0x57]), (489, [0xa7, 0x07, 0x7d]), (492, [0x2b]), (493, [0x2a]), (494, [0x15, 0x04]), (496, [0x04]), (497, [0x60]), (498, [0x2e]), (499, [0xb6, 0x00, 0x25]), (502, [0x57]), (503, [0x2c]), (504, [0x2a])] := pf_ok code _ 472 (by decide +kernel)
noncomputable def d_L_472 := gq_0 db67e_7 eb_38
noncomputable def d_L_473 := gq_1 db67e_7 eb_0
noncomputable def d_L_474 := gq_2 db67e_7 eb_77
noncomputable def d_L_476 := gq_3 db67e_7 eb_294
noncomputable def d_L_477 := gq_4 db67e_7 eb_36
noncomputable def d_L_478 := gq_5 db67e_7 eb_38
noncomputable def d_L_479 := gq_6 db67e_7 eb_0
noncomputable def d_L_480 := gq_7 db67e_7 eb_77
noncomputable def d_L_482 := gq_8 db67e_7 eb_123
noncomputable def d_L_483 := gq_9 db67e_7 eb_36
noncomputable def d_L_484 := gq_10 db67e_7 eb_38
noncomputable def d_L_485 := gq_11 db67e_7 eb_1421
noncomputable def d_L_488 := gq_12 db67e_7 eb_483
noncomputable def d_L_489 := gq_13 db67e_7 eb_1422
noncomputable def d_L_492 := gq_14 db67e_7 eb_24
noncomputable def d_L_493 := gq_15 db67e_7 eb_0
noncomputable def d_L_494 := gq_16 db67e_7 eb_77
noncomputable def d_L_496 := gq_17 db67e_7 eb_20
noncomputable def d_L_497 := gq_18 db67e_7 eb_36
noncomputable def d_L_498 := gq_19 db67e_7 eb_38
noncomputable def d_L_499 := gq_20 db67e_7 eb_1423
noncomputable def d_L_502 := gq_21 db67e_7 eb_483
noncomputable def d_L_503 := gq_22 db67e_7 eb_304
noncomputable def d_L_504 := gq_23 db67e_7 eb_0
theorem db67e_8 : Pf_ code [(505, [0x15, 0x04]), (507, [0x04]), (508, [0x60]), (509, [0x2e]), (510, [0xb6, 0x00, 0x29]), (513, [0x57]), (514, [0xa7, 0x07, 0x64]), (517, [0x2b]), (518, [0x2a]), (519, [0x15, 0x04]), (521, [0x04]), (522, [0x60]), (523, [0x2e]), (524, [0xb6, 0x00, 0x2a]), (527, [0x57]), (528, [0x2c]), (529, [0x2a]), (530, [0x15, 0x04]), (532, [0x04]), (533, [0x60]), (534, [0x2e]), (535, [0xb6, 0x00, 0x2e]), (538, [0x57]), (539, [0xa7, 0x07, 0x4b])] := pf_ok code _ 505 (by decide +kernel)
noncomputable def d_L_505 := gq_0 db67e_8 eb_77
noncomputable def d_L_507 := gq_1 db67e_8 eb_20
noncomputable def d_L_508 := gq_2 db67e_8 eb_36
noncomputable def d_L_509 := gq_3 db67e_8 eb_38
noncomputable def d_L_510 := gq_4 db67e_8 eb_1424
noncomputable def d_L_513 := gq_5 db67e_8 eb_483
noncomputable def d_L_514 := gq_6 db67e_8 eb_1425
noncomputable def d_L_517 := gq_7 db67e_8 eb_24
noncomputable def d_L_518 := gq_8 db67e_8 eb_0
noncomputable def d_L_519 := gq_9 db67e_8 eb_77
noncomputable def d_L_521 := gq_10 db67e_8 eb_20
noncomputable def d_L_522 := gq_11 db67e_8 eb_36
noncomputable def d_L_523 := gq_12 db67e_8 eb_38
noncomputable def d_L_524 := gq_13 db67e_8 eb_1426
noncomputable def d_L_527 := gq_14 db67e_8 eb_483
noncomputable def d_L_528 := gq_15 db67e_8 eb_304
noncomputable def d_L_529 := gq_16 db67e_8 eb_0
noncomputable def d_L_530 := gq_17 db67e_8 eb_77
noncomputable def d_L_532 := gq_18 db67e_8 eb_20
noncomputable def d_L_533 := gq_19 db67e_8 eb_36
noncomputable def d_L_534 := gq_20 db67e_8 eb_38
noncomputable def d_L_535 := gq_21 db67e_8 eb_67
noncomputable def d_L_538 := gq_22 db67e_8 eb_483
noncomputable def d_L_539 := gq_23 db67e_8 eb_1427
theorem db67e_9 : Pf_ code [(542, [0x2b]), (543, [0xb6, 0x00, 0x2f]), (546, [0x57]), (547, [0x2c]), (548, [0xb6, 0x00, 0x33]), (551, [0x57]), (552, [0xa7, 0x07, 0x3e]), (555, [0x2b]), (556, [0x2a]), (557, [0x15, 0x04]), (559, [0x04]), (560, [0x60]), (561, [0x2e]), (562, [0x2a]), (563, [0x15, 0x04]), (565, [0x05]), (566, [0x60]), (567, [0x2e]), (568, [0xb6, 0x00, 0x34]), (571, [0x57]), (572, [0x2c]), (573, [0x2a]), (574, [0x15, 0x04]), (576, [0x04])] := pf_ok code _ 542 (by decide +kernel)
noncomputable def d_L_542 := gq_0 db67e_9 eb_24
noncomputable def d_L_543 := gq_1 db67e_9 eb_1428
noncomputable def d_L_546 := gq_2 db67e_9 eb_483
noncomputable def d_L_547 := gq_3 db67e_9 eb_304
noncomputable def d_L_548 := gq_4 db67e_9 eb_211
noncomputable def d_L_551 := gq_5 db67e_9 eb_483
noncomputable def d_L_552 := gq_6 db67e_9 eb_1429
noncomputable def d_L_555 := gq_7 db67e_9 eb_24
noncomputable def d_L_556 := gq_8 db67e_9 eb_0
noncomputable def d_L_557 := gq_9 db67e_9 eb_77
noncomputable def d_L_559 := gq_10 db67e_9 eb_20
noncomputable def d_L_560 := gq_11 db67e_9 eb_36
noncomputable def d_L_561 := gq_12 db67e_9 eb_38
noncomputable def d_L_562 := gq_13 db67e_9 eb_0
noncomputable def d_L_563 := gq_14 db67e_9 eb_77
noncomputable def d_L_565 := gq_15 db67e_9 eb_11
noncomputable def d_L_566 := gq_16 db67e_9 eb_36
noncomputable def d_L_567 := gq_17 db67e_9 eb_38
noncomputable def d_L_568 := gq_18 db67e_9 eb_1430
noncomputable def d_L_571 := gq_19 db67e_9 eb_483
noncomputable def d_L_572 := gq_20 db67e_9 eb_304
noncomputable def d_L_573 := gq_21 db67e_9 eb_0
noncomputable def d_L_574 := gq_22 db67e_9 eb_77
noncomputable def d_L_576 := gq_23 db67e_9 eb_20
theorem db67e_10 : Pf_ code [(577, [0x60]), (578, [0x2e]), (579, [0x2a]), (580, [0x15, 0x04]), (582, [0x05]), (583, [0x60]), (584, [0x2e]), (585, [0xb6, 0x00, 0x37]), (588, [0x57]), (589, [0xa7, 0x07, 0x19]), (592, [0x2b]), (593, [0x2a]), (594, [0x15, 0x04]), (596, [0x04]), (597, [0x60]), (598, [0x2e]), (599, [0x2a]), (600, [0x15, 0x04]), (602, [0x05]), (603, [0x60]), (604, [0x2e]), (605, [0xb6, 0x00, 0x38]), (608, [0x57]), (609, [0x2c])] := pf_ok code _ 577 (by decide +kernel)
noncomputable def d_L_577 := gq_0 db67e_10 eb_36
noncomputable def d_L_578 := gq_1 db67e_10 eb_38
noncomputable def d_L_579 := gq_2 db67e_10 eb_0
noncomputable def d_L_580 := gq_3 db67e_10 eb_77
noncomputable def d_L_582 := gq_4 db67e_10 eb_11
noncomputable def d_L_583 := gq_5 db67e_10 eb_36
noncomputable def d_L_584 := gq_6 db67e_10 eb_38
noncomputable def d_L_585 := gq_7 db67e_10 eb_1431
noncomputable def d_L_588 := gq_8 db67e_10 eb_483
noncomputable def d_L_589 := gq_9 db67e_10 eb_1432
noncomputable def d_L_592 := gq_10 db67e_10 eb_24
noncomputable def d_L_593 := gq_11 db67e_10 eb_0
noncomputable def d_L_594 := gq_12 db67e_10 eb_77
noncomputable def d_L_596 := gq_13 db67e_10 eb_20
noncomputable def d_L_597 := gq_14 db67e_10 eb_36
noncomputable def d_L_598 := gq_15 db67e_10 eb_38
noncomputable def d_L_599 := gq_16 db67e_10 eb_0
noncomputable def d_L_600 := gq_17 db67e_10 eb_77
noncomputable def d_L_602 := gq_18 db67e_10 eb_11
noncomputable def d_L_603 := gq_19 db67e_10 eb_36
noncomputable def d_L_604 := gq_20 db67e_10 eb_38
noncomputable def d_L_605 := gq_21 db67e_10 eb_1433
noncomputable def d_L_608 := gq_22 db67e_10 eb_483
noncomputable def d_L_609 := gq_23 db67e_10 eb_304
theorem db67e_11 : Pf_ code [(610, [0x2a]), (611, [0x15, 0x04]), (613, [0x04]), (614, [0x60]), (615, [0x2e]), (616, [0x2a]), (617, [0x15, 0x04]), (619, [0x05]), (620, [0x60]), (621, [0x2e]), (622, [0xb6, 0x00, 0x3c]), (625, [0x57]), (626, [0xa7, 0x06, 0xf4]), (629, [0x2b]), (630, [0x2a]), (631, [0x15, 0x04]), (633, [0x04]), (634, [0x60]), (635, [0x2e]), (636, [0x2a]), (637, [0x15, 0x04]), (639, [0x05]), (640, [0x60]), (641, [0x2e])] := pf_ok code _ 610 (by decide +kernel)
noncomputable def d_L_610 := gq_0 db67e_11 eb_0
noncomputable def d_L_611 := gq_1 db67e_11 eb_77
noncomputable def d_L_613 := gq_2 db67e_11 eb_20
noncomputable def d_L_614 := gq_3 db67e_11 eb_36
noncomputable def d_L_615 := gq_4 db67e_11 eb_38
noncomputable def d_L_616 := gq_5 db67e_11 eb_0
noncomputable def d_L_617 := gq_6 db67e_11 eb_77
noncomputable def d_L_619 := gq_7 db67e_11 eb_11
noncomputable def d_L_620 := gq_8 db67e_11 eb_36
noncomputable def d_L_621 := gq_9 db67e_11 eb_38
noncomputable def d_L_622 := gq_10 db67e_11 eb_85
noncomputable def d_L_625 := gq_11 db67e_11 eb_483
noncomputable def d_L_626 := gq_12 db67e_11 eb_1434
noncomputable def d_L_629 := gq_13 db67e_11 eb_24
noncomputable def d_L_630 := gq_14 db67e_11 eb_0
noncomputable def d_L_631 := gq_15 db67e_11 eb_77
noncomputable def d_L_633 := gq_16 db67e_11 eb_20
noncomputable def d_L_634 := gq_17 db67e_11 eb_36
noncomputable def d_L_635 := gq_18 db67e_11 eb_38
noncomputable def d_L_636 := gq_19 db67e_11 eb_0
noncomputable def d_L_637 := gq_20 db67e_11 eb_77
noncomputable def d_L_639 := gq_21 db67e_11 eb_11
noncomputable def d_L_640 := gq_22 db67e_11 eb_36
noncomputable def d_L_641 := gq_23 db67e_11 eb_38
theorem db67e_12 : Pf_ code [(642, [0x2a]), (643, [0x15, 0x04]), (645, [0x06]), (646, [0x60]), (647, [0x2e]), (648, [0xb6, 0x00, 0x3d]), (651, [0x57]), (652, [0x2c]), (653, [0x2a]), (654, [0x15, 0x04]), (656, [0x04]), (657, [0x60]), (658, [0x2e]), (659, [0x2a]), (660, [0x15, 0x04]), (662, [0x05]), (663, [0x60]), (664, [0x2e]), (665, [0x2a]), (666, [0x15, 0x04]), (668, [0x06]), (669, [0x60]), (670, [0x2e]), (671, [0xb6, 0x00, 0x41])] := pf_ok code _ 642 (by decide +kernel)
noncomputable def d_L_642 := gq_0 db67e_12 eb_0
noncomputable def d_L_643 := gq_1 db67e_12 eb_77
noncomputable def d_L_645 := gq_2 db67e_12 eb_55
noncomputable def d_L_646 := gq_3 db67e_12 eb_36
noncomputable def d_L_647 := gq_4 db67e_12 eb_38
noncomputable def d_L_648 := gq_5 db67e_12 eb_217
noncomputable def d_L_651 := gq_6 db67e_12 eb_483
noncomputable def d_L_652 := gq_7 db67e_12 eb_304
noncomputable def d_L_653 := gq_8 db67e_12 eb_0
noncomputable def d_L_654 := gq_9 db67e_12 eb_77
noncomputable def d_L_656 := gq_10 db67e_12 eb_20
noncomputable def d_L_657 := gq_11 db67e_12 eb_36
noncomputable def d_L_658 := gq_12 db67e_12 eb_38
noncomputable def d_L_659 := gq_13 db67e_12 eb_0
noncomputable def d_L_660 := gq_14 db67e_12 eb_77
noncomputable def d_L_662 := gq_15 db67e_12 eb_11
noncomputable def d_L_663 := gq_16 db67e_12 eb_36
noncomputable def d_L_664 := gq_17 db67e_12 eb_38
noncomputable def d_L_665 := gq_18 db67e_12 eb_0
noncomputable def d_L_666 := gq_19 db67e_12 eb_77
noncomputable def d_L_668 := gq_20 db67e_12 eb_55
noncomputable def d_L_669 := gq_21 db67e_12 eb_36
noncomputable def d_L_670 := gq_22 db67e_12 eb_38
noncomputable def d_L_671 := gq_23 db67e_12 eb_1435
theorem db67e_13 : Pf_ code [(674, [0x57]), (675, [0xa7, 0x06, 0xc3]), (678, [0x2b]), (679, [0x2a]), (680, [0x15, 0x04]), (682, [0x04]), (683, [0x60]), (684, [0x2e]), (685, [0x2a]), (686, [0x15, 0x04]), (688, [0x05]), (689, [0x60]), (690, [0x2e]), (691, [0x99, 0x00, 0x07]), (694, [0x04]), (695, [0xa7, 0x00, 0x04]), (698, [0x03]), (699, [0xb6, 0x00, 0x42]), (702, [0x57]), (703, [0x2c]), (704, [0x2a]), (705, [0x15, 0x04]), (707, [0x04]), (708, [0x60])] := pf_ok code _ 674 (by decide +kernel)
noncomputable def d_L_674 := gq_0 db67e_13 eb_483
noncomputable def d_L_675 := gq_1 db67e_13 eb_1436
noncomputable def d_L_678 := gq_2 db67e_13 eb_24
noncomputable def d_L_679 := gq_3 db67e_13 eb_0
noncomputable def d_L_680 := gq_4 db67e_13 eb_77
noncomputable def d_L_682 := gq_5 db67e_13 eb_20
noncomputable def d_L_683 := gq_6 db67e_13 eb_36
noncomputable def d_L_684 := gq_7 db67e_13 eb_38
noncomputable def d_L_685 := gq_8 db67e_13 eb_0
noncomputable def d_L_686 := gq_9 db67e_13 eb_77
noncomputable def d_L_688 := gq_10 db67e_13 eb_11
noncomputable def d_L_689 := gq_11 db67e_13 eb_36
noncomputable def d_L_690 := gq_12 db67e_13 eb_38
noncomputable def d_L_691 := gq_13 db67e_13 eb_124
noncomputable def d_L_694 := gq_14 db67e_13 eb_20
noncomputable def d_L_695 := gq_15 db67e_13 eb_21
noncomputable def d_L_698 := gq_16 db67e_13 eb_22
noncomputable def d_L_699 := gq_17 db67e_13 eb_295
noncomputable def d_L_702 := gq_18 db67e_13 eb_483
noncomputable def d_L_703 := gq_19 db67e_13 eb_304
noncomputable def d_L_704 := gq_20 db67e_13 eb_0
noncomputable def d_L_705 := gq_21 db67e_13 eb_77
noncomputable def d_L_707 := gq_22 db67e_13 eb_20
noncomputable def d_L_708 := gq_23 db67e_13 eb_36
theorem db67e_14 : Pf_ code [(709, [0x2e]), (710, [0x2a]), (711, [0x15, 0x04]), (713, [0x05]), (714, [0x60]), (715, [0x2e]), (716, [0x99, 0x00, 0x07]), (719, [0x04]), (720, [0xa7, 0x00, 0x04]), (723, [0x03]), (724, [0xb6, 0x00, 0x46]), (727, [0x57]), (728, [0xa7, 0x06, 0x8e]), (731, [0x2b]), (732, [0x2a]), (733, [0x15, 0x04]), (735, [0x04]), (736, [0x60]), (737, [0x2e]), (738, [0xb6, 0x00, 0x47]), (741, [0x57]), (742, [0x2c]), (743, [0x2a]), (744, [0x15, 0x04])] := pf_ok code _ 709 (by decide +kernel)
noncomputable def d_L_709 := gq_0 db67e_14 eb_38
noncomputable def d_L_710 := gq_1 db67e_14 eb_0
noncomputable def d_L_711 := gq_2 db67e_14 eb_77
noncomputable def d_L_713 := gq_3 db67e_14 eb_11
noncomputable def d_L_714 := gq_4 db67e_14 eb_36
noncomputable def d_L_715 := gq_5 db67e_14 eb_38
noncomputable def d_L_716 := gq_6 db67e_14 eb_124
noncomputable def d_L_719 := gq_7 db67e_14 eb_20
noncomputable def d_L_720 := gq_8 db67e_14 eb_21
noncomputable def d_L_723 := gq_9 db67e_14 eb_22
noncomputable def d_L_724 := gq_10 db67e_14 eb_219
noncomputable def d_L_727 := gq_11 db67e_14 eb_483
noncomputable def d_L_728 := gq_12 db67e_14 eb_1437
noncomputable def d_L_731 := gq_13 db67e_14 eb_24
noncomputable def d_L_732 := gq_14 db67e_14 eb_0
noncomputable def d_L_733 := gq_15 db67e_14 eb_77
noncomputable def d_L_735 := gq_16 db67e_14 eb_20
noncomputable def d_L_736 := gq_17 db67e_14 eb_36
noncomputable def d_L_737 := gq_18 db67e_14 eb_38
noncomputable def d_L_738 := gq_19 db67e_14 eb_1438
noncomputable def d_L_741 := gq_20 db67e_14 eb_483
noncomputable def d_L_742 := gq_21 db67e_14 eb_304
noncomputable def d_L_743 := gq_22 db67e_14 eb_0
noncomputable def d_L_744 := gq_23 db67e_14 eb_77
theorem db67e_15 : Pf_ code [(746, [0x04]), (747, [0x60]), (748, [0x2e]), (749, [0xb6, 0x00, 0x4a]), (752, [0x57]), (753, [0xa7, 0x06, 0x75]), (756, [0x2b]), (757, [0x2a]), (758, [0x15, 0x04]), (760, [0x04]), (761, [0x60]), (762, [0x2e]), (763, [0x2a]), (764, [0x15, 0x04]), (766, [0x05]), (767, [0x60]), (768, [0x2e]), (769, [0x2d]), (770, [0xb8, 0x00, 0x4b]), (773, [0x36, 0x05]), (775, [0x2c]), (776, [0x2a]), (777, [0x15, 0x04]), (779, [0x04])] := pf_ok code _ 746 (by decide +kernel)
noncomputable def d_L_746 := gq_0 db67e_15 eb_20
noncomputable def d_L_747 := gq_1 db67e_15 eb_36
noncomputable def d_L_748 := gq_2 db67e_15 eb_38
noncomputable def d_L_749 := gq_3 db67e_15 eb_1439
noncomputable def d_L_752 := gq_4 db67e_15 eb_483
noncomputable def d_L_753 := gq_5 db67e_15 eb_1440
noncomputable def d_L_756 := gq_6 db67e_15 eb_24
noncomputable def d_L_757 := gq_7 db67e_15 eb_0
noncomputable def d_L_758 := gq_8 db67e_15 eb_77
noncomputable def d_L_760 := gq_9 db67e_15 eb_20
noncomputable def d_L_761 := gq_10 db67e_15 eb_36
noncomputable def d_L_762 := gq_11 db67e_15 eb_38
noncomputable def d_L_763 := gq_12 db67e_15 eb_0
noncomputable def d_L_764 := gq_13 db67e_15 eb_77
noncomputable def d_L_766 := gq_14 db67e_15 eb_11
noncomputable def d_L_767 := gq_15 db67e_15 eb_36
noncomputable def d_L_768 := gq_16 db67e_15 eb_38
noncomputable def d_L_769 := gq_17 db67e_15 eb_315
noncomputable def d_L_770 := gq_18 db67e_15 eb_1441
noncomputable def d_L_773 := gq_19 db67e_15 eb_135
noncomputable def d_L_775 := gq_20 db67e_15 eb_304
noncomputable def d_L_776 := gq_21 db67e_15 eb_0
noncomputable def d_L_777 := gq_22 db67e_15 eb_77
noncomputable def d_L_779 := gq_23 db67e_15 eb_20
theorem db67e_16 : Pf_ code [(780, [0x60]), (781, [0x2e]), (782, [0x2a]), (783, [0x15, 0x04]), (785, [0x05]), (786, [0x60])] := pf_ok code _ 780 (by decide +kernel)
noncomputable def d_L_780 := gq_0 db67e_16 eb_36
noncomputable def d_L_781 := gq_1 db67e_16 eb_38
noncomputable def d_L_782 := gq_2 db67e_16 eb_0
noncomputable def d_L_783 := gq_3 db67e_16 eb_77
noncomputable def d_L_785 := gq_4 db67e_16 eb_11
noncomputable def d_L_786 := gq_5 db67e_16 eb_36
end
section
theorem db67f_0 : Pf_ code [(787, [0x2e]), (788, [0xb6, 0x00, 0x50]), (791, [0x36, 0x06]), (793, [0xa7, 0x06, 0x4d]), (796, [0x2b]), (797, [0x2a]), (798, [0x15, 0x04]), (800, [0x04]), (801, [0x60]), (802, [0x2e]), (803, [0x2a]), (804, [0x15, 0x04]), (806, [0x05]), (807, [0x60]), (808, [0x2e]), (809, [0xb6, 0x00, 0x51]), (812, [0x57]), (813, [0x2c]), (814, [0x2a]), (815, [0x15, 0x04]), (817, [0x04]), (818, [0x60]), (819, [0x2e]), (820, [0x2a])] := pf_ok code _ 787 (by decide +kernel)
noncomputable def d_L_787 := gq_0 db67f_0 eb_38
noncomputable def d_L_788 := gq_1 db67f_0 eb_1442
noncomputable def d_L_791 := gq_2 db67f_0 eb_59
noncomputable def d_L_793 := gq_3 db67f_0 eb_1443
noncomputable def d_L_796 := gq_4 db67f_0 eb_24
noncomputable def d_L_797 := gq_5 db67f_0 eb_0
noncomputable def d_L_798 := gq_6 db67f_0 eb_77
noncomputable def d_L_800 := gq_7 db67f_0 eb_20
noncomputable def d_L_801 := gq_8 db67f_0 eb_36
noncomputable def d_L_802 := gq_9 db67f_0 eb_38
noncomputable def d_L_803 := gq_10 db67f_0 eb_0
noncomputable def d_L_804 := gq_11 db67f_0 eb_77
noncomputable def d_L_806 := gq_12 db67f_0 eb_11
noncomputable def d_L_807 := gq_13 db67f_0 eb_36
noncomputable def d_L_808 := gq_14 db67f_0 eb_38
noncomputable def d_L_809 := gq_15 db67f_0 eb_1444
noncomputable def d_L_812 := gq_16 db67f_0 eb_483
noncomputable def d_L_813 := gq_17 db67f_0 eb_304
noncomputable def d_L_814 := gq_18 db67f_0 eb_0
noncomputable def d_L_815 := gq_19 db67f_0 eb_77
noncomputable def d_L_817 := gq_20 db67f_0 eb_20
noncomputable def d_L_818 := gq_21 db67f_0 eb_36
noncomputable def d_L_819 := gq_22 db67f_0 eb_38
noncomputable def d_L_820 := gq_23 db67f_0 eb_0
theorem db67f_1 : Pf_ code [(821, [0x15, 0x04]), (823, [0x05]), (824, [0x60]), (825, [0x2e]), (826, [0xb6, 0x00, 0x54]), (829, [0x57]), (830, [0xa7, 0x06, 0x28]), (833, [0x2b]), (834, [0x2a]), (835, [0x15, 0x04]), (837, [0x04]), (838, [0x60]), (839, [0x2e]), (840, [0x2a]), (841, [0x15, 0x04]), (843, [0x05]), (844, [0x60]), (845, [0x2e]), (846, [0x2a]), (847, [0x15, 0x04]), (849, [0x06]), (850, [0x60]), (851, [0x2e]), (852, [0xb6, 0x00, 0x55])] := pf_ok code _ 821 (by decide +kernel)
noncomputable def d_L_821 := gq_0 db67f_1 eb_77
noncomputable def d_L_823 := gq_1 db67f_1 eb_11
noncomputable def d_L_824 := gq_2 db67f_1 eb_36
noncomputable def d_L_825 := gq_3 db67f_1 eb_38
noncomputable def d_L_826 := gq_4 db67f_1 eb_159
noncomputable def d_L_829 := gq_5 db67f_1 eb_483
noncomputable def d_L_830 := gq_6 db67f_1 eb_1445
noncomputable def d_L_833 := gq_7 db67f_1 eb_24
noncomputable def d_L_834 := gq_8 db67f_1 eb_0
noncomputable def d_L_835 := gq_9 db67f_1 eb_77
noncomputable def d_L_837 := gq_10 db67f_1 eb_20
noncomputable def d_L_838 := gq_11 db67f_1 eb_36
noncomputable def d_L_839 := gq_12 db67f_1 eb_38
noncomputable def d_L_840 := gq_13 db67f_1 eb_0
noncomputable def d_L_841 := gq_14 db67f_1 eb_77
noncomputable def d_L_843 := gq_15 db67f_1 eb_11
noncomputable def d_L_844 := gq_16 db67f_1 eb_36
noncomputable def d_L_845 := gq_17 db67f_1 eb_38
noncomputable def d_L_846 := gq_18 db67f_1 eb_0
noncomputable def d_L_847 := gq_19 db67f_1 eb_77
noncomputable def d_L_849 := gq_20 db67f_1 eb_55
noncomputable def d_L_850 := gq_21 db67f_1 eb_36
noncomputable def d_L_851 := gq_22 db67f_1 eb_38
noncomputable def d_L_852 := gq_23 db67f_1 eb_486
theorem db67f_2 : Pf_ code [(855, [0x57]), (856, [0x2c]), (857, [0x2a]), (858, [0x15, 0x04]), (860, [0x04]), (861, [0x60]), (862, [0x2e]), (863, [0x2a]), (864, [0x15, 0x04]), (866, [0x05]), (867, [0x60]), (868, [0x2e]), (869, [0x2a]), (870, [0x15, 0x04]), (872, [0x06]), (873, [0x60]), (874, [0x2e]), (875, [0xb6, 0x00, 0x58]), (878, [0x57]), (879, [0xa7, 0x05, 0xf7]), (882, [0x2b]), (883, [0x2a]), (884, [0x15, 0x04]), (886, [0x04])] := pf_ok code _ 855 (by decide +kernel)
noncomputable def d_L_855 := gq_0 db67f_2 eb_483
noncomputable def d_L_856 := gq_1 db67f_2 eb_304
noncomputable def d_L_857 := gq_2 db67f_2 eb_0
noncomputable def d_L_858 := gq_3 db67f_2 eb_77
noncomputable def d_L_860 := gq_4 db67f_2 eb_20
noncomputable def d_L_861 := gq_5 db67f_2 eb_36
noncomputable def d_L_862 := gq_6 db67f_2 eb_38
noncomputable def d_L_863 := gq_7 db67f_2 eb_0
noncomputable def d_L_864 := gq_8 db67f_2 eb_77
noncomputable def d_L_866 := gq_9 db67f_2 eb_11
noncomputable def d_L_867 := gq_10 db67f_2 eb_36
noncomputable def d_L_868 := gq_11 db67f_2 eb_38
noncomputable def d_L_869 := gq_12 db67f_2 eb_0
noncomputable def d_L_870 := gq_13 db67f_2 eb_77
noncomputable def d_L_872 := gq_14 db67f_2 eb_55
noncomputable def d_L_873 := gq_15 db67f_2 eb_36
noncomputable def d_L_874 := gq_16 db67f_2 eb_38
noncomputable def d_L_875 := gq_17 db67f_2 eb_1446
noncomputable def d_L_878 := gq_18 db67f_2 eb_483
noncomputable def d_L_879 := gq_19 db67f_2 eb_1447
noncomputable def d_L_882 := gq_20 db67f_2 eb_24
noncomputable def d_L_883 := gq_21 db67f_2 eb_0
noncomputable def d_L_884 := gq_22 db67f_2 eb_77
noncomputable def d_L_886 := gq_23 db67f_2 eb_20
theorem db67f_3 : Pf_ code [(887, [0x60]), (888, [0x2e]), (889, [0x2a]), (890, [0x15, 0x04]), (892, [0x05]), (893, [0x60]), (894, [0x2e]), (895, [0xb6, 0x00, 0x59]), (898, [0x57]), (899, [0x2c]), (900, [0x2a]), (901, [0x15, 0x04]), (903, [0x04]), (904, [0x60]), (905, [0x2e]), (906, [0x2a]), (907, [0x15, 0x04]), (909, [0x05]), (910, [0x60]), (911, [0x2e]), (912, [0xb6, 0x00, 0x5c]), (915, [0x57]), (916, [0xa7, 0x05, 0xd2]), (919, [0x2b])] := pf_ok code _ 887 (by decide +kernel)
noncomputable def d_L_887 := gq_0 db67f_3 eb_36
noncomputable def d_L_888 := gq_1 db67f_3 eb_38
noncomputable def d_L_889 := gq_2 db67f_3 eb_0
noncomputable def d_L_890 := gq_3 db67f_3 eb_77
noncomputable def d_L_892 := gq_4 db67f_3 eb_11
noncomputable def d_L_893 := gq_5 db67f_3 eb_36
noncomputable def d_L_894 := gq_6 db67f_3 eb_38
noncomputable def d_L_895 := gq_7 db67f_3 eb_487
noncomputable def d_L_898 := gq_8 db67f_3 eb_483
noncomputable def d_L_899 := gq_9 db67f_3 eb_304
noncomputable def d_L_900 := gq_10 db67f_3 eb_0
noncomputable def d_L_901 := gq_11 db67f_3 eb_77
noncomputable def d_L_903 := gq_12 db67f_3 eb_20
noncomputable def d_L_904 := gq_13 db67f_3 eb_36
noncomputable def d_L_905 := gq_14 db67f_3 eb_38
noncomputable def d_L_906 := gq_15 db67f_3 eb_0
noncomputable def d_L_907 := gq_16 db67f_3 eb_77
noncomputable def d_L_909 := gq_17 db67f_3 eb_11
noncomputable def d_L_910 := gq_18 db67f_3 eb_36
noncomputable def d_L_911 := gq_19 db67f_3 eb_38
noncomputable def d_L_912 := gq_20 db67f_3 eb_489
noncomputable def d_L_915 := gq_21 db67f_3 eb_483
noncomputable def d_L_916 := gq_22 db67f_3 eb_1448
noncomputable def d_L_919 := gq_23 db67f_3 eb_24
theorem db67f_4 : Pf_ code [(920, [0x2a]), (921, [0x15, 0x04]), (923, [0x04]), (924, [0x60]), (925, [0x2e]), (926, [0x2a]), (927, [0x15, 0x04]), (929, [0x05]), (930, [0x60]), (931, [0x2e]), (932, [0xb6, 0x00, 0x5d]), (935, [0x57]), (936, [0x2c]), (937, [0x2a]), (938, [0x15, 0x04]), (940, [0x04]), (941, [0x60]), (942, [0x2e]), (943, [0x2a]), (944, [0x15, 0x04]), (946, [0x05]), (947, [0x60]), (948, [0x2e]), (949, [0xb6, 0x00, 0x60])] := pf_ok code _ 920 (by decide +kernel)
noncomputable def d_L_920 := gq_0 db67f_4 eb_0
noncomputable def d_L_921 := gq_1 db67f_4 eb_77
noncomputable def d_L_923 := gq_2 db67f_4 eb_20
noncomputable def d_L_924 := gq_3 db67f_4 eb_36
noncomputable def d_L_925 := gq_4 db67f_4 eb_38
noncomputable def d_L_926 := gq_5 db67f_4 eb_0
noncomputable def d_L_927 := gq_6 db67f_4 eb_77
noncomputable def d_L_929 := gq_7 db67f_4 eb_11
noncomputable def d_L_930 := gq_8 db67f_4 eb_36
noncomputable def d_L_931 := gq_9 db67f_4 eb_38
noncomputable def d_L_932 := gq_10 db67f_4 eb_165
noncomputable def d_L_935 := gq_11 db67f_4 eb_483
noncomputable def d_L_936 := gq_12 db67f_4 eb_304
noncomputable def d_L_937 := gq_13 db67f_4 eb_0
noncomputable def d_L_938 := gq_14 db67f_4 eb_77
noncomputable def d_L_940 := gq_15 db67f_4 eb_20
noncomputable def d_L_941 := gq_16 db67f_4 eb_36
noncomputable def d_L_942 := gq_17 db67f_4 eb_38
noncomputable def d_L_943 := gq_18 db67f_4 eb_0
noncomputable def d_L_944 := gq_19 db67f_4 eb_77
noncomputable def d_L_946 := gq_20 db67f_4 eb_11
noncomputable def d_L_947 := gq_21 db67f_4 eb_36
noncomputable def d_L_948 := gq_22 db67f_4 eb_38
noncomputable def d_L_949 := gq_23 db67f_4 eb_167
theorem db67f_5 : Pf_ code [(952, [0x57]), (953, [0xa7, 0x05, 0xad]), (956, [0x2b]), (957, [0x2a]), (958, [0x15, 0x04]), (960, [0x04]), (961, [0x60]), (962, [0x2e]), (963, [0x2a]), (964, [0x15, 0x04]), (966, [0x05]), (967, [0x60]), (968, [0x2e]), (969, [0x2a]), (970, [0x15, 0x04]), (972, [0x06]), (973, [0x60]), (974, [0x2e]), (975, [0x2a]), (976, [0x15, 0x04]), (978, [0x07]), (979, [0x60]), (980, [0x2e]), (981, [0x2a])] := pf_ok code _ 952 (by decide +kernel)
noncomputable def d_L_952 := gq_0 db67f_5 eb_483
noncomputable def d_L_953 := gq_1 db67f_5 eb_1449
noncomputable def d_L_956 := gq_2 db67f_5 eb_24
noncomputable def d_L_957 := gq_3 db67f_5 eb_0
noncomputable def d_L_958 := gq_4 db67f_5 eb_77
noncomputable def d_L_960 := gq_5 db67f_5 eb_20
noncomputable def d_L_961 := gq_6 db67f_5 eb_36
noncomputable def d_L_962 := gq_7 db67f_5 eb_38
noncomputable def d_L_963 := gq_8 db67f_5 eb_0
noncomputable def d_L_964 := gq_9 db67f_5 eb_77
noncomputable def d_L_966 := gq_10 db67f_5 eb_11
noncomputable def d_L_967 := gq_11 db67f_5 eb_36
noncomputable def d_L_968 := gq_12 db67f_5 eb_38
noncomputable def d_L_969 := gq_13 db67f_5 eb_0
noncomputable def d_L_970 := gq_14 db67f_5 eb_77
noncomputable def d_L_972 := gq_15 db67f_5 eb_55
noncomputable def d_L_973 := gq_16 db67f_5 eb_36
noncomputable def d_L_974 := gq_17 db67f_5 eb_38
noncomputable def d_L_975 := gq_18 db67f_5 eb_0
noncomputable def d_L_976 := gq_19 db67f_5 eb_77
noncomputable def d_L_978 := gq_20 db67f_5 eb_294
noncomputable def d_L_979 := gq_21 db67f_5 eb_36
noncomputable def d_L_980 := gq_22 db67f_5 eb_38
noncomputable def d_L_981 := gq_23 db67f_5 eb_0
theorem db67f_6 : Pf_ code [(982, [0x15, 0x04]), (984, [0x08]), (985, [0x60]), (986, [0x2e]), (987, [0xb6, 0x00, 0x61]), (990, [0x57]), (991, [0x2c]), (992, [0x2a]), (993, [0x15, 0x04]), (995, [0x04]), (996, [0x60]), (997, [0x2e]), (998, [0x2a]), (999, [0x15, 0x04]), (1001, [0x05]), (1002, [0x60]), (1003, [0x2e]), (1004, [0x2a]), (1005, [0x15, 0x04]), (1007, [0x06]), (1008, [0x60]), (1009, [0x2e]), (1010, [0x2a]), (1011, [0x15, 0x04])] := pf_ok code _ 982 (by decide +kernel)
noncomputable def d_L_982 := gq_0 db67f_6 eb_77
noncomputable def d_L_984 := gq_1 db67f_6 eb_123
noncomputable def d_L_985 := gq_2 db67f_6 eb_36
noncomputable def d_L_986 := gq_3 db67f_6 eb_38
noncomputable def d_L_987 := gq_4 db67f_6 eb_1450
noncomputable def d_L_990 := gq_5 db67f_6 eb_483
noncomputable def d_L_991 := gq_6 db67f_6 eb_304
noncomputable def d_L_992 := gq_7 db67f_6 eb_0
noncomputable def d_L_993 := gq_8 db67f_6 eb_77
noncomputable def d_L_995 := gq_9 db67f_6 eb_20
noncomputable def d_L_996 := gq_10 db67f_6 eb_36
noncomputable def d_L_997 := gq_11 db67f_6 eb_38
noncomputable def d_L_998 := gq_12 db67f_6 eb_0
noncomputable def d_L_999 := gq_13 db67f_6 eb_77
noncomputable def d_L_1001 := gq_14 db67f_6 eb_11
noncomputable def d_L_1002 := gq_15 db67f_6 eb_36
noncomputable def d_L_1003 := gq_16 db67f_6 eb_38
noncomputable def d_L_1004 := gq_17 db67f_6 eb_0
noncomputable def d_L_1005 := gq_18 db67f_6 eb_77
noncomputable def d_L_1007 := gq_19 db67f_6 eb_55
noncomputable def d_L_1008 := gq_20 db67f_6 eb_36
noncomputable def d_L_1009 := gq_21 db67f_6 eb_38
noncomputable def d_L_1010 := gq_22 db67f_6 eb_0
noncomputable def d_L_1011 := gq_23 db67f_6 eb_77
theorem db67f_7 : Pf_ code [(1013, [0x07]), (1014, [0x60]), (1015, [0x2e]), (1016, [0x2a]), (1017, [0x15, 0x04]), (1019, [0x08]), (1020, [0x60]), (1021, [0x2e]), (1022, [0xb6, 0x00, 0x64]), (1025, [0x57]), (1026, [0xa7, 0x05, 0x64]), (1029, [0x2b]), (1030, [0x2a]), (1031, [0x15, 0x04]), (1033, [0x04]), (1034, [0x60]), (1035, [0x2e]), (1036, [0xb6, 0x00, 0x65]), (1039, [0x57]), (1040, [0x2c]), (1041, [0x2a]), (1042, [0x15, 0x04]), (1044, [0x04]), (1045, [0x60])] := pf_ok code _ 1013 (by decide +kernel)
noncomputable def d_L_1013 := gq_0 db67f_7 eb_294
noncomputable def d_L_1014 := gq_1 db67f_7 eb_36
noncomputable def d_L_1015 := gq_2 db67f_7 eb_38
noncomputable def d_L_1016 := gq_3 db67f_7 eb_0
noncomputable def d_L_1017 := gq_4 db67f_7 eb_77
noncomputable def d_L_1019 := gq_5 db67f_7 eb_123
noncomputable def d_L_1020 := gq_6 db67f_7 eb_36
noncomputable def d_L_1021 := gq_7 db67f_7 eb_38
noncomputable def d_L_1022 := gq_8 db67f_7 eb_168
noncomputable def d_L_1025 := gq_9 db67f_7 eb_483
noncomputable def d_L_1026 := gq_10 db67f_7 eb_1451
noncomputable def d_L_1029 := gq_11 db67f_7 eb_24
noncomputable def d_L_1030 := gq_12 db67f_7 eb_0
noncomputable def d_L_1031 := gq_13 db67f_7 eb_77
noncomputable def d_L_1033 := gq_14 db67f_7 eb_20
noncomputable def d_L_1034 := gq_15 db67f_7 eb_36
noncomputable def d_L_1035 := gq_16 db67f_7 eb_38
noncomputable def d_L_1036 := gq_17 db67f_7 eb_501
noncomputable def d_L_1039 := gq_18 db67f_7 eb_483
noncomputable def d_L_1040 := gq_19 db67f_7 eb_304
noncomputable def d_L_1041 := gq_20 db67f_7 eb_0
noncomputable def d_L_1042 := gq_21 db67f_7 eb_77
noncomputable def d_L_1044 := gq_22 db67f_7 eb_20
noncomputable def d_L_1045 := gq_23 db67f_7 eb_36
theorem db67f_8 : Pf_ code [(1046, [0x2e]), (1047, [0xb6, 0x00, 0x68]), (1050, [0x57]), (1051, [0xa7, 0x05, 0x4b]), (1054, [0x2b]), (1055, [0x2a]), (1056, [0x15, 0x04]), (1058, [0x04]), (1059, [0x60]), (1060, [0x2e]), (1061, [0x2a]), (1062, [0x15, 0x04]), (1064, [0x05]), (1065, [0x60]), (1066, [0x2e]), (1067, [0xb6, 0x00, 0x69]), (1070, [0x57]), (1071, [0x2c]), (1072, [0x2a]), (1073, [0x15, 0x04]), (1075, [0x04]), (1076, [0x60]), (1077, [0x2e]), (1078, [0x2a])] := pf_ok code _ 1046 (by decide +kernel)
noncomputable def d_L_1046 := gq_0 db67f_8 eb_38
noncomputable def d_L_1047 := gq_1 db67f_8 eb_1452
noncomputable def d_L_1050 := gq_2 db67f_8 eb_483
noncomputable def d_L_1051 := gq_3 db67f_8 eb_1453
noncomputable def d_L_1054 := gq_4 db67f_8 eb_24
noncomputable def d_L_1055 := gq_5 db67f_8 eb_0
noncomputable def d_L_1056 := gq_6 db67f_8 eb_77
noncomputable def d_L_1058 := gq_7 db67f_8 eb_20
noncomputable def d_L_1059 := gq_8 db67f_8 eb_36
noncomputable def d_L_1060 := gq_9 db67f_8 eb_38
noncomputable def d_L_1061 := gq_10 db67f_8 eb_0
noncomputable def d_L_1062 := gq_11 db67f_8 eb_77
noncomputable def d_L_1064 := gq_12 db67f_8 eb_11
noncomputable def d_L_1065 := gq_13 db67f_8 eb_36
noncomputable def d_L_1066 := gq_14 db67f_8 eb_38
noncomputable def d_L_1067 := gq_15 db67f_8 eb_1454
noncomputable def d_L_1070 := gq_16 db67f_8 eb_483
noncomputable def d_L_1071 := gq_17 db67f_8 eb_304
noncomputable def d_L_1072 := gq_18 db67f_8 eb_0
noncomputable def d_L_1073 := gq_19 db67f_8 eb_77
noncomputable def d_L_1075 := gq_20 db67f_8 eb_20
noncomputable def d_L_1076 := gq_21 db67f_8 eb_36
noncomputable def d_L_1077 := gq_22 db67f_8 eb_38
noncomputable def d_L_1078 := gq_23 db67f_8 eb_0
theorem db67f_9 : Pf_ code [(1079, [0x15, 0x04]), (1081, [0x05]), (1082, [0x60]), (1083, [0x2e]), (1084, [0xb6, 0x00, 0x6c]), (1087, [0x57]), (1088, [0xa7, 0x05, 0x26]), (1091, [0x2b]), (1092, [0x2a]), (1093, [0x15, 0x04]), (1095, [0x04]), (1096, [0x60]), (1097, [0x2e]), (1098, [0x2a]), (1099, [0x15, 0x04]), (1101, [0x05]), (1102, [0x60]), (1103, [0x2e]), (1104, [0xb6, 0x00, 0x6d]), (1107, [0x57]), (1108, [0x2c]), (1109, [0x2a]), (1110, [0x15, 0x04]), (1112, [0x04])] := pf_ok code _ 1079 (by decide +kernel)
noncomputable def d_L_1079 := gq_0 db67f_9 eb_77
noncomputable def d_L_1081 := gq_1 db67f_9 eb_11
noncomputable def d_L_1082 := gq_2 db67f_9 eb_36
noncomputable def d_L_1083 := gq_3 db67f_9 eb_38
noncomputable def d_L_1084 := gq_4 db67f_9 eb_1455
noncomputable def d_L_1087 := gq_5 db67f_9 eb_483
noncomputable def d_L_1088 := gq_6 db67f_9 eb_1456
noncomputable def d_L_1091 := gq_7 db67f_9 eb_24
noncomputable def d_L_1092 := gq_8 db67f_9 eb_0
noncomputable def d_L_1093 := gq_9 db67f_9 eb_77
noncomputable def d_L_1095 := gq_10 db67f_9 eb_20
noncomputable def d_L_1096 := gq_11 db67f_9 eb_36
noncomputable def d_L_1097 := gq_12 db67f_9 eb_38
noncomputable def d_L_1098 := gq_13 db67f_9 eb_0
noncomputable def d_L_1099 := gq_14 db67f_9 eb_77
noncomputable def d_L_1101 := gq_15 db67f_9 eb_11
noncomputable def d_L_1102 := gq_16 db67f_9 eb_36
noncomputable def d_L_1103 := gq_17 db67f_9 eb_38
noncomputable def d_L_1104 := gq_18 db67f_9 eb_1457
noncomputable def d_L_1107 := gq_19 db67f_9 eb_483
noncomputable def d_L_1108 := gq_20 db67f_9 eb_304
noncomputable def d_L_1109 := gq_21 db67f_9 eb_0
noncomputable def d_L_1110 := gq_22 db67f_9 eb_77
noncomputable def d_L_1112 := gq_23 db67f_9 eb_20
theorem db67f_10 : Pf_ code [(1113, [0x60]), (1114, [0x2e]), (1115, [0x2a]), (1116, [0x15, 0x04]), (1118, [0x05]), (1119, [0x60]), (1120, [0x2e]), (1121, [0xb6, 0x00, 0x70]), (1124, [0x57]), (1125, [0xa7, 0x05, 0x01]), (1128, [0x2b]), (1129, [0x2a]), (1130, [0x15, 0x04]), (1132, [0x04]), (1133, [0x60]), (1134, [0x2e]), (1135, [0x2a]), (1136, [0x15, 0x04]), (1138, [0x05]), (1139, [0x60]), (1140, [0x2e]), (1141, [0xb6, 0x00, 0x71]), (1144, [0x57]), (1145, [0x2c])] := pf_ok code _ 1113 (by decide +kernel)
noncomputable def d_L_1113 := gq_0 db67f_10 eb_36
noncomputable def d_L_1114 := gq_1 db67f_10 eb_38
noncomputable def d_L_1115 := gq_2 db67f_10 eb_0
noncomputable def d_L_1116 := gq_3 db67f_10 eb_77
noncomputable def d_L_1118 := gq_4 db67f_10 eb_11
noncomputable def d_L_1119 := gq_5 db67f_10 eb_36
noncomputable def d_L_1120 := gq_6 db67f_10 eb_38
noncomputable def d_L_1121 := gq_7 db67f_10 eb_509
noncomputable def d_L_1124 := gq_8 db67f_10 eb_483
noncomputable def d_L_1125 := gq_9 db67f_10 eb_1458
noncomputable def d_L_1128 := gq_10 db67f_10 eb_24
noncomputable def d_L_1129 := gq_11 db67f_10 eb_0
noncomputable def d_L_1130 := gq_12 db67f_10 eb_77
noncomputable def d_L_1132 := gq_13 db67f_10 eb_20
noncomputable def d_L_1133 := gq_14 db67f_10 eb_36
noncomputable def d_L_1134 := gq_15 db67f_10 eb_38
noncomputable def d_L_1135 := gq_16 db67f_10 eb_0
noncomputable def d_L_1136 := gq_17 db67f_10 eb_77
noncomputable def d_L_1138 := gq_18 db67f_10 eb_11
noncomputable def d_L_1139 := gq_19 db67f_10 eb_36
noncomputable def d_L_1140 := gq_20 db67f_10 eb_38
noncomputable def d_L_1141 := gq_21 db67f_10 eb_1459
noncomputable def d_L_1144 := gq_22 db67f_10 eb_483
noncomputable def d_L_1145 := gq_23 db67f_10 eb_304
theorem db67f_11 : Pf_ code [(1146, [0x2a]), (1147, [0x15, 0x04]), (1149, [0x04]), (1150, [0x60]), (1151, [0x2e]), (1152, [0x2a]), (1153, [0x15, 0x04]), (1155, [0x05]), (1156, [0x60]), (1157, [0x2e]), (1158, [0xb6, 0x00, 0x74]), (1161, [0x57]), (1162, [0xa7, 0x04, 0xdc]), (1165, [0x2b]), (1166, [0x2a]), (1167, [0x15, 0x04]), (1169, [0x04]), (1170, [0x60]), (1171, [0x2e]), (1172, [0xb6, 0x00, 0x75]), (1175, [0x57]), (1176, [0x2c]), (1177, [0x2a]), (1178, [0x15, 0x04])] := pf_ok code _ 1146 (by decide +kernel)
noncomputable def d_L_1146 := gq_0 db67f_11 eb_0
noncomputable def d_L_1147 := gq_1 db67f_11 eb_77
noncomputable def d_L_1149 := gq_2 db67f_11 eb_20
noncomputable def d_L_1150 := gq_3 db67f_11 eb_36
noncomputable def d_L_1151 := gq_4 db67f_11 eb_38
noncomputable def d_L_1152 := gq_5 db67f_11 eb_0
noncomputable def d_L_1153 := gq_6 db67f_11 eb_77
noncomputable def d_L_1155 := gq_7 db67f_11 eb_11
noncomputable def d_L_1156 := gq_8 db67f_11 eb_36
noncomputable def d_L_1157 := gq_9 db67f_11 eb_38
noncomputable def d_L_1158 := gq_10 db67f_11 eb_1460
noncomputable def d_L_1161 := gq_11 db67f_11 eb_483
noncomputable def d_L_1162 := gq_12 db67f_11 eb_1461
noncomputable def d_L_1165 := gq_13 db67f_11 eb_24
noncomputable def d_L_1166 := gq_14 db67f_11 eb_0
noncomputable def d_L_1167 := gq_15 db67f_11 eb_77
noncomputable def d_L_1169 := gq_16 db67f_11 eb_20
noncomputable def d_L_1170 := gq_17 db67f_11 eb_36
noncomputable def d_L_1171 := gq_18 db67f_11 eb_38
noncomputable def d_L_1172 := gq_19 db67f_11 eb_1462
noncomputable def d_L_1175 := gq_20 db67f_11 eb_483
noncomputable def d_L_1176 := gq_21 db67f_11 eb_304
noncomputable def d_L_1177 := gq_22 db67f_11 eb_0
noncomputable def d_L_1178 := gq_23 db67f_11 eb_77
theorem db67f_12 : Pf_ code [(1180, [0x04]), (1181, [0x60]), (1182, [0x2e]), (1183, [0xb6, 0x00, 0x78]), (1186, [0x57]), (1187, [0xa7, 0x04, 0xc3]), (1190, [0x2b]), (1191, [0x2a]), (1192, [0x15, 0x04]), (1194, [0x04]), (1195, [0x60]), (1196, [0x2e]), (1197, [0xb6, 0x00, 0x79]), (1200, [0x57]), (1201, [0x2c]), (1202, [0x2a]), (1203, [0x15, 0x04]), (1205, [0x04]), (1206, [0x60]), (1207, [0x2e]), (1208, [0xb6, 0x00, 0x7c]), (1211, [0x57]), (1212, [0xa7, 0x04, 0xaa]), (1215, [0x2b])] := pf_ok code _ 1180 (by decide +kernel)
noncomputable def d_L_1180 := gq_0 db67f_12 eb_20
noncomputable def d_L_1181 := gq_1 db67f_12 eb_36
noncomputable def d_L_1182 := gq_2 db67f_12 eb_38
noncomputable def d_L_1183 := gq_3 db67f_12 eb_1463
noncomputable def d_L_1186 := gq_4 db67f_12 eb_483
noncomputable def d_L_1187 := gq_5 db67f_12 eb_1464
noncomputable def d_L_1190 := gq_6 db67f_12 eb_24
noncomputable def d_L_1191 := gq_7 db67f_12 eb_0
noncomputable def d_L_1192 := gq_8 db67f_12 eb_77
noncomputable def d_L_1194 := gq_9 db67f_12 eb_20
noncomputable def d_L_1195 := gq_10 db67f_12 eb_36
noncomputable def d_L_1196 := gq_11 db67f_12 eb_38
noncomputable def d_L_1197 := gq_12 db67f_12 eb_515
noncomputable def d_L_1200 := gq_13 db67f_12 eb_483
noncomputable def d_L_1201 := gq_14 db67f_12 eb_304
noncomputable def d_L_1202 := gq_15 db67f_12 eb_0
noncomputable def d_L_1203 := gq_16 db67f_12 eb_77
noncomputable def d_L_1205 := gq_17 db67f_12 eb_20
noncomputable def d_L_1206 := gq_18 db67f_12 eb_36
noncomputable def d_L_1207 := gq_19 db67f_12 eb_38
noncomputable def d_L_1208 := gq_20 db67f_12 eb_1465
noncomputable def d_L_1211 := gq_21 db67f_12 eb_483
noncomputable def d_L_1212 := gq_22 db67f_12 eb_1466
noncomputable def d_L_1215 := gq_23 db67f_12 eb_24
theorem db67f_13 : Pf_ code [(1216, [0x2a]), (1217, [0x15, 0x04]), (1219, [0x04]), (1220, [0x60]), (1221, [0x2e]), (1222, [0x2a]), (1223, [0x15, 0x04]), (1225, [0x05]), (1226, [0x60]), (1227, [0x2e]), (1228, [0xb6, 0x00, 0x7d]), (1231, [0x57]), (1232, [0x2c]), (1233, [0x2a]), (1234, [0x15, 0x04]), (1236, [0x04]), (1237, [0x60]), (1238, [0x2e]), (1239, [0x2a]), (1240, [0x15, 0x04]), (1242, [0x05]), (1243, [0x60]), (1244, [0x2e]), (1245, [0xb6, 0x00, 0x80])] := pf_ok code _ 1216 (by decide +kernel)
noncomputable def d_L_1216 := gq_0 db67f_13 eb_0
noncomputable def d_L_1217 := gq_1 db67f_13 eb_77
noncomputable def d_L_1219 := gq_2 db67f_13 eb_20
noncomputable def d_L_1220 := gq_3 db67f_13 eb_36
noncomputable def d_L_1221 := gq_4 db67f_13 eb_38
noncomputable def d_L_1222 := gq_5 db67f_13 eb_0
noncomputable def d_L_1223 := gq_6 db67f_13 eb_77
noncomputable def d_L_1225 := gq_7 db67f_13 eb_11
noncomputable def d_L_1226 := gq_8 db67f_13 eb_36
noncomputable def d_L_1227 := gq_9 db67f_13 eb_38
noncomputable def d_L_1228 := gq_10 db67f_13 eb_1467
noncomputable def d_L_1231 := gq_11 db67f_13 eb_483
noncomputable def d_L_1232 := gq_12 db67f_13 eb_304
noncomputable def d_L_1233 := gq_13 db67f_13 eb_0
noncomputable def d_L_1234 := gq_14 db67f_13 eb_77
noncomputable def d_L_1236 := gq_15 db67f_13 eb_20
noncomputable def d_L_1237 := gq_16 db67f_13 eb_36
noncomputable def d_L_1238 := gq_17 db67f_13 eb_38
noncomputable def d_L_1239 := gq_18 db67f_13 eb_0
noncomputable def d_L_1240 := gq_19 db67f_13 eb_77
noncomputable def d_L_1242 := gq_20 db67f_13 eb_11
noncomputable def d_L_1243 := gq_21 db67f_13 eb_36
noncomputable def d_L_1244 := gq_22 db67f_13 eb_38
noncomputable def d_L_1245 := gq_23 db67f_13 eb_1468
theorem db67f_14 : Pf_ code [(1248, [0x57]), (1249, [0xa7, 0x04, 0x85]), (1252, [0x2b]), (1253, [0x2a]), (1254, [0x15, 0x04]), (1256, [0x04]), (1257, [0x60]), (1258, [0x2e]), (1259, [0x2a]), (1260, [0x15, 0x04]), (1262, [0x05]), (1263, [0x60]), (1264, [0x2e]), (1265, [0xb6, 0x00, 0x81]), (1268, [0x57]), (1269, [0x2c]), (1270, [0x2a]), (1271, [0x15, 0x04]), (1273, [0x04]), (1274, [0x60]), (1275, [0x2e]), (1276, [0x2a]), (1277, [0x15, 0x04]), (1279, [0x05])] := pf_ok code _ 1248 (by decide +kernel)
noncomputable def d_L_1248 := gq_0 db67f_14 eb_483
noncomputable def d_L_1249 := gq_1 db67f_14 eb_1469
noncomputable def d_L_1252 := gq_2 db67f_14 eb_24
noncomputable def d_L_1253 := gq_3 db67f_14 eb_0
noncomputable def d_L_1254 := gq_4 db67f_14 eb_77
noncomputable def d_L_1256 := gq_5 db67f_14 eb_20
noncomputable def d_L_1257 := gq_6 db67f_14 eb_36
noncomputable def d_L_1258 := gq_7 db67f_14 eb_38
noncomputable def d_L_1259 := gq_8 db67f_14 eb_0
noncomputable def d_L_1260 := gq_9 db67f_14 eb_77
noncomputable def d_L_1262 := gq_10 db67f_14 eb_11
noncomputable def d_L_1263 := gq_11 db67f_14 eb_36
noncomputable def d_L_1264 := gq_12 db67f_14 eb_38
noncomputable def d_L_1265 := gq_13 db67f_14 eb_643
noncomputable def d_L_1268 := gq_14 db67f_14 eb_483
noncomputable def d_L_1269 := gq_15 db67f_14 eb_304
noncomputable def d_L_1270 := gq_16 db67f_14 eb_0
noncomputable def d_L_1271 := gq_17 db67f_14 eb_77
noncomputable def d_L_1273 := gq_18 db67f_14 eb_20
noncomputable def d_L_1274 := gq_19 db67f_14 eb_36
noncomputable def d_L_1275 := gq_20 db67f_14 eb_38
noncomputable def d_L_1276 := gq_21 db67f_14 eb_0
noncomputable def d_L_1277 := gq_22 db67f_14 eb_77
noncomputable def d_L_1279 := gq_23 db67f_14 eb_11
theorem db67f_15 : Pf_ code [(1280, [0x60]), (1281, [0x2e]), (1282, [0xb6, 0x00, 0x84]), (1285, [0x57]), (1286, [0xa7, 0x04, 0x60]), (1289, [0x2b]), (1290, [0x2a]), (1291, [0x15, 0x04]), (1293, [0x04]), (1294, [0x60]), (1295, [0x2e]), (1296, [0x2a]), (1297, [0x15, 0x04]), (1299, [0x05]), (1300, [0x60]), (1301, [0x2e]), (1302, [0x2a]), (1303, [0x15, 0x04]), (1305, [0x06]), (1306, [0x60]), (1307, [0x2e]), (1308, [0x2a]), (1309, [0x15, 0x04]), (1311, [0x07])] := pf_ok code _ 1280 (by decide +kernel)
noncomputable def d_L_1280 := gq_0 db67f_15 eb_36
noncomputable def d_L_1281 := gq_1 db67f_15 eb_38
noncomputable def d_L_1282 := gq_2 db67f_15 eb_1470
noncomputable def d_L_1285 := gq_3 db67f_15 eb_483
noncomputable def d_L_1286 := gq_4 db67f_15 eb_1471
noncomputable def d_L_1289 := gq_5 db67f_15 eb_24
noncomputable def d_L_1290 := gq_6 db67f_15 eb_0
noncomputable def d_L_1291 := gq_7 db67f_15 eb_77
noncomputable def d_L_1293 := gq_8 db67f_15 eb_20
noncomputable def d_L_1294 := gq_9 db67f_15 eb_36
noncomputable def d_L_1295 := gq_10 db67f_15 eb_38
noncomputable def d_L_1296 := gq_11 db67f_15 eb_0
noncomputable def d_L_1297 := gq_12 db67f_15 eb_77
noncomputable def d_L_1299 := gq_13 db67f_15 eb_11
noncomputable def d_L_1300 := gq_14 db67f_15 eb_36
noncomputable def d_L_1301 := gq_15 db67f_15 eb_38
noncomputable def d_L_1302 := gq_16 db67f_15 eb_0
noncomputable def d_L_1303 := gq_17 db67f_15 eb_77
noncomputable def d_L_1305 := gq_18 db67f_15 eb_55
noncomputable def d_L_1306 := gq_19 db67f_15 eb_36
noncomputable def d_L_1307 := gq_20 db67f_15 eb_38
noncomputable def d_L_1308 := gq_21 db67f_15 eb_0
noncomputable def d_L_1309 := gq_22 db67f_15 eb_77
noncomputable def d_L_1311 := gq_23 db67f_15 eb_294
theorem db67f_16 : Pf_ code [(1312, [0x60]), (1313, [0x2e]), (1314, [0x99, 0x00, 0x07]), (1317, [0x04]), (1318, [0xa7, 0x00, 0x04]), (1321, [0x03]), (1322, [0xb6, 0x00, 0x85])] := pf_ok code _ 1312 (by decide +kernel)
noncomputable def d_L_1312 := gq_0 db67f_16 eb_36
noncomputable def d_L_1313 := gq_1 db67f_16 eb_38
noncomputable def d_L_1314 := gq_2 db67f_16 eb_124
noncomputable def d_L_1317 := gq_3 db67f_16 eb_20
noncomputable def d_L_1318 := gq_4 db67f_16 eb_21
noncomputable def d_L_1321 := gq_5 db67f_16 eb_22
noncomputable def d_L_1322 := gq_6 db67f_16 eb_644
end
section
theorem db67g_0 : Pf_ code [(1325, [0x57]), (1326, [0x2c]), (1327, [0x2a]), (1328, [0x15, 0x04]), (1330, [0x04]), (1331, [0x60]), (1332, [0x2e]), (1333, [0x2a]), (1334, [0x15, 0x04]), (1336, [0x05]), (1337, [0x60]), (1338, [0x2e]), (1339, [0x2a]), (1340, [0x15, 0x04]), (1342, [0x06]), (1343, [0x60]), (1344, [0x2e]), (1345, [0x2a]), (1346, [0x15, 0x04]), (1348, [0x07]), (1349, [0x60]), (1350, [0x2e]), (1351, [0x99, 0x00, 0x07]), (1354, [0x04])] := pf_ok code _ 1325 (by decide +kernel)
noncomputable def d_L_1325 := gq_0 db67g_0 eb_483
noncomputable def d_L_1326 := gq_1 db67g_0 eb_304
noncomputable def d_L_1327 := gq_2 db67g_0 eb_0
noncomputable def d_L_1328 := gq_3 db67g_0 eb_77
noncomputable def d_L_1330 := gq_4 db67g_0 eb_20
noncomputable def d_L_1331 := gq_5 db67g_0 eb_36
noncomputable def d_L_1332 := gq_6 db67g_0 eb_38
noncomputable def d_L_1333 := gq_7 db67g_0 eb_0
noncomputable def d_L_1334 := gq_8 db67g_0 eb_77
noncomputable def d_L_1336 := gq_9 db67g_0 eb_11
noncomputable def d_L_1337 := gq_10 db67g_0 eb_36
noncomputable def d_L_1338 := gq_11 db67g_0 eb_38
noncomputable def d_L_1339 := gq_12 db67g_0 eb_0
noncomputable def d_L_1340 := gq_13 db67g_0 eb_77
noncomputable def d_L_1342 := gq_14 db67g_0 eb_55
noncomputable def d_L_1343 := gq_15 db67g_0 eb_36
noncomputable def d_L_1344 := gq_16 db67g_0 eb_38
noncomputable def d_L_1345 := gq_17 db67g_0 eb_0
noncomputable def d_L_1346 := gq_18 db67g_0 eb_77
noncomputable def d_L_1348 := gq_19 db67g_0 eb_294
noncomputable def d_L_1349 := gq_20 db67g_0 eb_36
noncomputable def d_L_1350 := gq_21 db67g_0 eb_38
noncomputable def d_L_1351 := gq_22 db67g_0 eb_124
noncomputable def d_L_1354 := gq_23 db67g_0 eb_20
theorem db67g_1 : Pf_ code [(1355, [0xa7, 0x00, 0x04]), (1358, [0x03]), (1359, [0xb6, 0x00, 0x89]), (1362, [0x57]), (1363, [0xa7, 0x04, 0x13]), (1366, [0x2b]), (1367, [0x2a]), (1368, [0x15, 0x04]), (1370, [0x04]), (1371, [0x60]), (1372, [0x2e]), (1373, [0xb6, 0x00, 0x8a]), (1376, [0x57]), (1377, [0x2c]), (1378, [0x2a]), (1379, [0x15, 0x04]), (1381, [0x04]), (1382, [0x60]), (1383, [0x2e]), (1384, [0xb6, 0x00, 0x8d]), (1387, [0x57]), (1388, [0xa7, 0x03, 0xfa]), (1391, [0x2b]), (1392, [0x2a])] := pf_ok code _ 1355 (by decide +kernel)
noncomputable def d_L_1355 := gq_0 db67g_1 eb_21
noncomputable def d_L_1358 := gq_1 db67g_1 eb_22
noncomputable def d_L_1359 := gq_2 db67g_1 eb_524
noncomputable def d_L_1362 := gq_3 db67g_1 eb_483
noncomputable def d_L_1363 := gq_4 db67g_1 eb_1472
noncomputable def d_L_1366 := gq_5 db67g_1 eb_24
noncomputable def d_L_1367 := gq_6 db67g_1 eb_0
noncomputable def d_L_1368 := gq_7 db67g_1 eb_77
noncomputable def d_L_1370 := gq_8 db67g_1 eb_20
noncomputable def d_L_1371 := gq_9 db67g_1 eb_36
noncomputable def d_L_1372 := gq_10 db67g_1 eb_38
noncomputable def d_L_1373 := gq_11 db67g_1 eb_1473
noncomputable def d_L_1376 := gq_12 db67g_1 eb_483
noncomputable def d_L_1377 := gq_13 db67g_1 eb_304
noncomputable def d_L_1378 := gq_14 db67g_1 eb_0
noncomputable def d_L_1379 := gq_15 db67g_1 eb_77
noncomputable def d_L_1381 := gq_16 db67g_1 eb_20
noncomputable def d_L_1382 := gq_17 db67g_1 eb_36
noncomputable def d_L_1383 := gq_18 db67g_1 eb_38
noncomputable def d_L_1384 := gq_19 db67g_1 eb_1474
noncomputable def d_L_1387 := gq_20 db67g_1 eb_483
noncomputable def d_L_1388 := gq_21 db67g_1 eb_1475
noncomputable def d_L_1391 := gq_22 db67g_1 eb_24
noncomputable def d_L_1392 := gq_23 db67g_1 eb_0
theorem db67g_2 : Pf_ code [(1393, [0x15, 0x04]), (1395, [0x04]), (1396, [0x60]), (1397, [0x2e]), (1398, [0x2a]), (1399, [0x15, 0x04]), (1401, [0x05]), (1402, [0x60]), (1403, [0x2e]), (1404, [0x2a]), (1405, [0x15, 0x04]), (1407, [0x06]), (1408, [0x60]), (1409, [0x2e]), (1410, [0xb6, 0x00, 0x8e]), (1413, [0x57]), (1414, [0x2c]), (1415, [0x2a]), (1416, [0x15, 0x04]), (1418, [0x04]), (1419, [0x60]), (1420, [0x2e]), (1421, [0x2a]), (1422, [0x15, 0x04])] := pf_ok code _ 1393 (by decide +kernel)
noncomputable def d_L_1393 := gq_0 db67g_2 eb_77
noncomputable def d_L_1395 := gq_1 db67g_2 eb_20
noncomputable def d_L_1396 := gq_2 db67g_2 eb_36
noncomputable def d_L_1397 := gq_3 db67g_2 eb_38
noncomputable def d_L_1398 := gq_4 db67g_2 eb_0
noncomputable def d_L_1399 := gq_5 db67g_2 eb_77
noncomputable def d_L_1401 := gq_6 db67g_2 eb_11
noncomputable def d_L_1402 := gq_7 db67g_2 eb_36
noncomputable def d_L_1403 := gq_8 db67g_2 eb_38
noncomputable def d_L_1404 := gq_9 db67g_2 eb_0
noncomputable def d_L_1405 := gq_10 db67g_2 eb_77
noncomputable def d_L_1407 := gq_11 db67g_2 eb_55
noncomputable def d_L_1408 := gq_12 db67g_2 eb_36
noncomputable def d_L_1409 := gq_13 db67g_2 eb_38
noncomputable def d_L_1410 := gq_14 db67g_2 eb_1476
noncomputable def d_L_1413 := gq_15 db67g_2 eb_483
noncomputable def d_L_1414 := gq_16 db67g_2 eb_304
noncomputable def d_L_1415 := gq_17 db67g_2 eb_0
noncomputable def d_L_1416 := gq_18 db67g_2 eb_77
noncomputable def d_L_1418 := gq_19 db67g_2 eb_20
noncomputable def d_L_1419 := gq_20 db67g_2 eb_36
noncomputable def d_L_1420 := gq_21 db67g_2 eb_38
noncomputable def d_L_1421 := gq_22 db67g_2 eb_0
noncomputable def d_L_1422 := gq_23 db67g_2 eb_77
theorem db67g_3 : Pf_ code [(1424, [0x05]), (1425, [0x60]), (1426, [0x2e]), (1427, [0x2a]), (1428, [0x15, 0x04]), (1430, [0x06]), (1431, [0x60]), (1432, [0x2e]), (1433, [0xb6, 0x00, 0x91]), (1436, [0x57]), (1437, [0xa7, 0x03, 0xc9]), (1440, [0x2b]), (1441, [0x2a]), (1442, [0x15, 0x04]), (1444, [0x04]), (1445, [0x60]), (1446, [0x2e]), (1447, [0x2a]), (1448, [0x15, 0x04]), (1450, [0x05]), (1451, [0x60]), (1452, [0x2e]), (1453, [0x2a]), (1454, [0x15, 0x04])] := pf_ok code _ 1424 (by decide +kernel)
noncomputable def d_L_1424 := gq_0 db67g_3 eb_11
noncomputable def d_L_1425 := gq_1 db67g_3 eb_36
noncomputable def d_L_1426 := gq_2 db67g_3 eb_38
noncomputable def d_L_1427 := gq_3 db67g_3 eb_0
noncomputable def d_L_1428 := gq_4 db67g_3 eb_77
noncomputable def d_L_1430 := gq_5 db67g_3 eb_55
noncomputable def d_L_1431 := gq_6 db67g_3 eb_36
noncomputable def d_L_1432 := gq_7 db67g_3 eb_38
noncomputable def d_L_1433 := gq_8 db67g_3 eb_1477
noncomputable def d_L_1436 := gq_9 db67g_3 eb_483
noncomputable def d_L_1437 := gq_10 db67g_3 eb_1478
noncomputable def d_L_1440 := gq_11 db67g_3 eb_24
noncomputable def d_L_1441 := gq_12 db67g_3 eb_0
noncomputable def d_L_1442 := gq_13 db67g_3 eb_77
noncomputable def d_L_1444 := gq_14 db67g_3 eb_20
noncomputable def d_L_1445 := gq_15 db67g_3 eb_36
noncomputable def d_L_1446 := gq_16 db67g_3 eb_38
noncomputable def d_L_1447 := gq_17 db67g_3 eb_0
noncomputable def d_L_1448 := gq_18 db67g_3 eb_77
noncomputable def d_L_1450 := gq_19 db67g_3 eb_11
noncomputable def d_L_1451 := gq_20 db67g_3 eb_36
noncomputable def d_L_1452 := gq_21 db67g_3 eb_38
noncomputable def d_L_1453 := gq_22 db67g_3 eb_0
noncomputable def d_L_1454 := gq_23 db67g_3 eb_77
theorem db67g_4 : Pf_ code [(1456, [0x06]), (1457, [0x60]), (1458, [0x2e]), (1459, [0xb6, 0x00, 0x92]), (1462, [0x57]), (1463, [0x2c]), (1464, [0x2a]), (1465, [0x15, 0x04]), (1467, [0x04]), (1468, [0x60]), (1469, [0x2e]), (1470, [0x2a]), (1471, [0x15, 0x04]), (1473, [0x05]), (1474, [0x60]), (1475, [0x2e]), (1476, [0x2a]), (1477, [0x15, 0x04]), (1479, [0x06]), (1480, [0x60]), (1481, [0x2e]), (1482, [0xb6, 0x00, 0x95]), (1485, [0x57]), (1486, [0xa7, 0x03, 0x98])] := pf_ok code _ 1456 (by decide +kernel)
noncomputable def d_L_1456 := gq_0 db67g_4 eb_55
noncomputable def d_L_1457 := gq_1 db67g_4 eb_36
noncomputable def d_L_1458 := gq_2 db67g_4 eb_38
noncomputable def d_L_1459 := gq_3 db67g_4 eb_526
noncomputable def d_L_1462 := gq_4 db67g_4 eb_483
noncomputable def d_L_1463 := gq_5 db67g_4 eb_304
noncomputable def d_L_1464 := gq_6 db67g_4 eb_0
noncomputable def d_L_1465 := gq_7 db67g_4 eb_77
noncomputable def d_L_1467 := gq_8 db67g_4 eb_20
noncomputable def d_L_1468 := gq_9 db67g_4 eb_36
noncomputable def d_L_1469 := gq_10 db67g_4 eb_38
noncomputable def d_L_1470 := gq_11 db67g_4 eb_0
noncomputable def d_L_1471 := gq_12 db67g_4 eb_77
noncomputable def d_L_1473 := gq_13 db67g_4 eb_11
noncomputable def d_L_1474 := gq_14 db67g_4 eb_36
noncomputable def d_L_1475 := gq_15 db67g_4 eb_38
noncomputable def d_L_1476 := gq_16 db67g_4 eb_0
noncomputable def d_L_1477 := gq_17 db67g_4 eb_77
noncomputable def d_L_1479 := gq_18 db67g_4 eb_55
noncomputable def d_L_1480 := gq_19 db67g_4 eb_36
noncomputable def d_L_1481 := gq_20 db67g_4 eb_38
noncomputable def d_L_1482 := gq_21 db67g_4 eb_1479
noncomputable def d_L_1485 := gq_22 db67g_4 eb_483
noncomputable def d_L_1486 := gq_23 db67g_4 eb_1480
theorem db67g_5 : Pf_ code [(1489, [0x2b]), (1490, [0x2a]), (1491, [0x15, 0x04]), (1493, [0x04]), (1494, [0x60]), (1495, [0x2e]), (1496, [0x2a]), (1497, [0x15, 0x04]), (1499, [0x05]), (1500, [0x60]), (1501, [0x2e]), (1502, [0x2a]), (1503, [0x15, 0x04]), (1505, [0x06]), (1506, [0x60]), (1507, [0x2e]), (1508, [0xb6, 0x00, 0x96]), (1511, [0x57]), (1512, [0x2c]), (1513, [0x2a]), (1514, [0x15, 0x04]), (1516, [0x04]), (1517, [0x60]), (1518, [0x2e])] := pf_ok code _ 1489 (by decide +kernel)
noncomputable def d_L_1489 := gq_0 db67g_5 eb_24
noncomputable def d_L_1490 := gq_1 db67g_5 eb_0
noncomputable def d_L_1491 := gq_2 db67g_5 eb_77
noncomputable def d_L_1493 := gq_3 db67g_5 eb_20
noncomputable def d_L_1494 := gq_4 db67g_5 eb_36
noncomputable def d_L_1495 := gq_5 db67g_5 eb_38
noncomputable def d_L_1496 := gq_6 db67g_5 eb_0
noncomputable def d_L_1497 := gq_7 db67g_5 eb_77
noncomputable def d_L_1499 := gq_8 db67g_5 eb_11
noncomputable def d_L_1500 := gq_9 db67g_5 eb_36
noncomputable def d_L_1501 := gq_10 db67g_5 eb_38
noncomputable def d_L_1502 := gq_11 db67g_5 eb_0
noncomputable def d_L_1503 := gq_12 db67g_5 eb_77
noncomputable def d_L_1505 := gq_13 db67g_5 eb_55
noncomputable def d_L_1506 := gq_14 db67g_5 eb_36
noncomputable def d_L_1507 := gq_15 db67g_5 eb_38
noncomputable def d_L_1508 := gq_16 db67g_5 eb_1481
noncomputable def d_L_1511 := gq_17 db67g_5 eb_483
noncomputable def d_L_1512 := gq_18 db67g_5 eb_304
noncomputable def d_L_1513 := gq_19 db67g_5 eb_0
noncomputable def d_L_1514 := gq_20 db67g_5 eb_77
noncomputable def d_L_1516 := gq_21 db67g_5 eb_20
noncomputable def d_L_1517 := gq_22 db67g_5 eb_36
noncomputable def d_L_1518 := gq_23 db67g_5 eb_38
theorem db67g_6 : Pf_ code [(1519, [0x2a]), (1520, [0x15, 0x04]), (1522, [0x05]), (1523, [0x60]), (1524, [0x2e]), (1525, [0x2a]), (1526, [0x15, 0x04]), (1528, [0x06]), (1529, [0x60]), (1530, [0x2e]), (1531, [0xb6, 0x00, 0x99]), (1534, [0x57]), (1535, [0xa7, 0x03, 0x67]), (1538, [0x2b]), (1539, [0x2a]), (1540, [0x15, 0x04]), (1542, [0x04]), (1543, [0x60]), (1544, [0x2e]), (1545, [0xb6, 0x00, 0x9a]), (1548, [0x57]), (1549, [0x2c]), (1550, [0x2a]), (1551, [0x15, 0x04])] := pf_ok code _ 1519 (by decide +kernel)
noncomputable def d_L_1519 := gq_0 db67g_6 eb_0
noncomputable def d_L_1520 := gq_1 db67g_6 eb_77
noncomputable def d_L_1522 := gq_2 db67g_6 eb_11
noncomputable def d_L_1523 := gq_3 db67g_6 eb_36
noncomputable def d_L_1524 := gq_4 db67g_6 eb_38
noncomputable def d_L_1525 := gq_5 db67g_6 eb_0
noncomputable def d_L_1526 := gq_6 db67g_6 eb_77
noncomputable def d_L_1528 := gq_7 db67g_6 eb_55
noncomputable def d_L_1529 := gq_8 db67g_6 eb_36
noncomputable def d_L_1530 := gq_9 db67g_6 eb_38
noncomputable def d_L_1531 := gq_10 db67g_6 eb_1482
noncomputable def d_L_1534 := gq_11 db67g_6 eb_483
noncomputable def d_L_1535 := gq_12 db67g_6 eb_1483
noncomputable def d_L_1538 := gq_13 db67g_6 eb_24
noncomputable def d_L_1539 := gq_14 db67g_6 eb_0
noncomputable def d_L_1540 := gq_15 db67g_6 eb_77
noncomputable def d_L_1542 := gq_16 db67g_6 eb_20
noncomputable def d_L_1543 := gq_17 db67g_6 eb_36
noncomputable def d_L_1544 := gq_18 db67g_6 eb_38
noncomputable def d_L_1545 := gq_19 db67g_6 eb_529
noncomputable def d_L_1548 := gq_20 db67g_6 eb_483
noncomputable def d_L_1549 := gq_21 db67g_6 eb_304
noncomputable def d_L_1550 := gq_22 db67g_6 eb_0
noncomputable def d_L_1551 := gq_23 db67g_6 eb_77
theorem db67g_7 : Pf_ code [(1553, [0x04]), (1554, [0x60]), (1555, [0x2e]), (1556, [0xb6, 0x00, 0x9d]), (1559, [0x57]), (1560, [0xa7, 0x03, 0x4e]), (1563, [0x2b]), (1564, [0x2a]), (1565, [0x15, 0x04]), (1567, [0x04]), (1568, [0x60]), (1569, [0x2e]), (1570, [0x99, 0x00, 0x07]), (1573, [0x04]), (1574, [0xa7, 0x00, 0x04]), (1577, [0x03]), (1578, [0x2a]), (1579, [0x15, 0x04]), (1581, [0x05]), (1582, [0x60]), (1583, [0x2e]), (1584, [0xb6, 0x00, 0x9e]), (1587, [0x57]), (1588, [0x2c])] := pf_ok code _ 1553 (by decide +kernel)
noncomputable def d_L_1553 := gq_0 db67g_7 eb_20
noncomputable def d_L_1554 := gq_1 db67g_7 eb_36
noncomputable def d_L_1555 := gq_2 db67g_7 eb_38
noncomputable def d_L_1556 := gq_3 db67g_7 eb_546
noncomputable def d_L_1559 := gq_4 db67g_7 eb_483
noncomputable def d_L_1560 := gq_5 db67g_7 eb_1484
noncomputable def d_L_1563 := gq_6 db67g_7 eb_24
noncomputable def d_L_1564 := gq_7 db67g_7 eb_0
noncomputable def d_L_1565 := gq_8 db67g_7 eb_77
noncomputable def d_L_1567 := gq_9 db67g_7 eb_20
noncomputable def d_L_1568 := gq_10 db67g_7 eb_36
noncomputable def d_L_1569 := gq_11 db67g_7 eb_38
noncomputable def d_L_1570 := gq_12 db67g_7 eb_124
noncomputable def d_L_1573 := gq_13 db67g_7 eb_20
noncomputable def d_L_1574 := gq_14 db67g_7 eb_21
noncomputable def d_L_1577 := gq_15 db67g_7 eb_22
noncomputable def d_L_1578 := gq_16 db67g_7 eb_0
noncomputable def d_L_1579 := gq_17 db67g_7 eb_77
noncomputable def d_L_1581 := gq_18 db67g_7 eb_11
noncomputable def d_L_1582 := gq_19 db67g_7 eb_36
noncomputable def d_L_1583 := gq_20 db67g_7 eb_38
noncomputable def d_L_1584 := gq_21 db67g_7 eb_1485
noncomputable def d_L_1587 := gq_22 db67g_7 eb_483
noncomputable def d_L_1588 := gq_23 db67g_7 eb_304
theorem db67g_8 : Pf_ code [(1589, [0x2a]), (1590, [0x15, 0x04]), (1592, [0x04]), (1593, [0x60]), (1594, [0x2e]), (1595, [0x99, 0x00, 0x07]), (1598, [0x04]), (1599, [0xa7, 0x00, 0x04]), (1602, [0x03]), (1603, [0x2a]), (1604, [0x15, 0x04]), (1606, [0x05]), (1607, [0x60]), (1608, [0x2e]), (1609, [0xb6, 0x00, 0xa2]), (1612, [0x57]), (1613, [0xa7, 0x03, 0x19]), (1616, [0x2b]), (1617, [0x2a]), (1618, [0x15, 0x04]), (1620, [0x04]), (1621, [0x60]), (1622, [0x2e]), (1623, [0xb6, 0x00, 0xa3])] := pf_ok code _ 1589 (by decide +kernel)
noncomputable def d_L_1589 := gq_0 db67g_8 eb_0
noncomputable def d_L_1590 := gq_1 db67g_8 eb_77
noncomputable def d_L_1592 := gq_2 db67g_8 eb_20
noncomputable def d_L_1593 := gq_3 db67g_8 eb_36
noncomputable def d_L_1594 := gq_4 db67g_8 eb_38
noncomputable def d_L_1595 := gq_5 db67g_8 eb_124
noncomputable def d_L_1598 := gq_6 db67g_8 eb_20
noncomputable def d_L_1599 := gq_7 db67g_8 eb_21
noncomputable def d_L_1602 := gq_8 db67g_8 eb_22
noncomputable def d_L_1603 := gq_9 db67g_8 eb_0
noncomputable def d_L_1604 := gq_10 db67g_8 eb_77
noncomputable def d_L_1606 := gq_11 db67g_8 eb_11
noncomputable def d_L_1607 := gq_12 db67g_8 eb_36
noncomputable def d_L_1608 := gq_13 db67g_8 eb_38
noncomputable def d_L_1609 := gq_14 db67g_8 eb_1486
noncomputable def d_L_1612 := gq_15 db67g_8 eb_483
noncomputable def d_L_1613 := gq_16 db67g_8 eb_1487
noncomputable def d_L_1616 := gq_17 db67g_8 eb_24
noncomputable def d_L_1617 := gq_18 db67g_8 eb_0
noncomputable def d_L_1618 := gq_19 db67g_8 eb_77
noncomputable def d_L_1620 := gq_20 db67g_8 eb_20
noncomputable def d_L_1621 := gq_21 db67g_8 eb_36
noncomputable def d_L_1622 := gq_22 db67g_8 eb_38
noncomputable def d_L_1623 := gq_23 db67g_8 eb_1488
theorem db67g_9 : Pf_ code [(1626, [0x57]), (1627, [0x2c]), (1628, [0x2a]), (1629, [0x15, 0x04]), (1631, [0x04]), (1632, [0x60]), (1633, [0x2e]), (1634, [0xb6, 0x00, 0xa6]), (1637, [0x57]), (1638, [0xa7, 0x03, 0x00]), (1641, [0x2b]), (1642, [0xb6, 0x00, 0xa7]), (1645, [0x57]), (1646, [0x2c]), (1647, [0xb6, 0x00, 0xaa]), (1650, [0x57]), (1651, [0xa7, 0x02, 0xf3]), (1654, [0x2b]), (1655, [0x2a]), (1656, [0x15, 0x04]), (1658, [0x04]), (1659, [0x60]), (1660, [0x2e]), (1661, [0xb6, 0x00, 0xab])] := pf_ok code _ 1626 (by decide +kernel)
noncomputable def d_L_1626 := gq_0 db67g_9 eb_483
noncomputable def d_L_1627 := gq_1 db67g_9 eb_304
noncomputable def d_L_1628 := gq_2 db67g_9 eb_0
noncomputable def d_L_1629 := gq_3 db67g_9 eb_77
noncomputable def d_L_1631 := gq_4 db67g_9 eb_20
noncomputable def d_L_1632 := gq_5 db67g_9 eb_36
noncomputable def d_L_1633 := gq_6 db67g_9 eb_38
noncomputable def d_L_1634 := gq_7 db67g_9 eb_1489
noncomputable def d_L_1637 := gq_8 db67g_9 eb_483
noncomputable def d_L_1638 := gq_9 db67g_9 eb_1490
noncomputable def d_L_1641 := gq_10 db67g_9 eb_24
noncomputable def d_L_1642 := gq_11 db67g_9 eb_1491
noncomputable def d_L_1645 := gq_12 db67g_9 eb_483
noncomputable def d_L_1646 := gq_13 db67g_9 eb_304
noncomputable def d_L_1647 := gq_14 db67g_9 eb_1492
noncomputable def d_L_1650 := gq_15 db67g_9 eb_483
noncomputable def d_L_1651 := gq_16 db67g_9 eb_1493
noncomputable def d_L_1654 := gq_17 db67g_9 eb_24
noncomputable def d_L_1655 := gq_18 db67g_9 eb_0
noncomputable def d_L_1656 := gq_19 db67g_9 eb_77
noncomputable def d_L_1658 := gq_20 db67g_9 eb_20
noncomputable def d_L_1659 := gq_21 db67g_9 eb_36
noncomputable def d_L_1660 := gq_22 db67g_9 eb_38
noncomputable def d_L_1661 := gq_23 db67g_9 eb_1494
theorem db67g_10 : Pf_ code [(1664, [0x57]), (1665, [0x2c]), (1666, [0x2a]), (1667, [0x15, 0x04]), (1669, [0x04]), (1670, [0x60]), (1671, [0x2e]), (1672, [0xb6, 0x00, 0xae]), (1675, [0x57]), (1676, [0xa7, 0x02, 0xda]), (1679, [0x2b]), (1680, [0x2a]), (1681, [0x15, 0x04]), (1683, [0x04]), (1684, [0x60]), (1685, [0x2e]), (1686, [0xb6, 0x00, 0xaf]), (1689, [0x57]), (1690, [0x2c]), (1691, [0x2a]), (1692, [0x15, 0x04]), (1694, [0x04]), (1695, [0x60]), (1696, [0x2e])] := pf_ok code _ 1664 (by decide +kernel)
noncomputable def d_L_1664 := gq_0 db67g_10 eb_483
noncomputable def d_L_1665 := gq_1 db67g_10 eb_304
noncomputable def d_L_1666 := gq_2 db67g_10 eb_0
noncomputable def d_L_1667 := gq_3 db67g_10 eb_77
noncomputable def d_L_1669 := gq_4 db67g_10 eb_20
noncomputable def d_L_1670 := gq_5 db67g_10 eb_36
noncomputable def d_L_1671 := gq_6 db67g_10 eb_38
noncomputable def d_L_1672 := gq_7 db67g_10 eb_1495
noncomputable def d_L_1675 := gq_8 db67g_10 eb_483
noncomputable def d_L_1676 := gq_9 db67g_10 eb_1496
noncomputable def d_L_1679 := gq_10 db67g_10 eb_24
noncomputable def d_L_1680 := gq_11 db67g_10 eb_0
noncomputable def d_L_1681 := gq_12 db67g_10 eb_77
noncomputable def d_L_1683 := gq_13 db67g_10 eb_20
noncomputable def d_L_1684 := gq_14 db67g_10 eb_36
noncomputable def d_L_1685 := gq_15 db67g_10 eb_38
noncomputable def d_L_1686 := gq_16 db67g_10 eb_1497
noncomputable def d_L_1689 := gq_17 db67g_10 eb_483
noncomputable def d_L_1690 := gq_18 db67g_10 eb_304
noncomputable def d_L_1691 := gq_19 db67g_10 eb_0
noncomputable def d_L_1692 := gq_20 db67g_10 eb_77
noncomputable def d_L_1694 := gq_21 db67g_10 eb_20
noncomputable def d_L_1695 := gq_22 db67g_10 eb_36
noncomputable def d_L_1696 := gq_23 db67g_10 eb_38
theorem db67g_11 : Pf_ code [(1697, [0xb6, 0x00, 0xb2]), (1700, [0x57]), (1701, [0xa7, 0x02, 0xc1]), (1704, [0x2b]), (1705, [0x2a]), (1706, [0x15, 0x04]), (1708, [0x04]), (1709, [0x60]), (1710, [0x2e]), (1711, [0xb6, 0x00, 0xb3]), (1714, [0x57]), (1715, [0x2c]), (1716, [0x2a]), (1717, [0x15, 0x04]), (1719, [0x04]), (1720, [0x60]), (1721, [0x2e]), (1722, [0xb6, 0x00, 0xb6]), (1725, [0x57]), (1726, [0xa7, 0x02, 0xa8]), (1729, [0x2b]), (1730, [0x2a]), (1731, [0x15, 0x04]), (1733, [0x04])] := pf_ok code _ 1697 (by decide +kernel)
noncomputable def d_L_1697 := gq_0 db67g_11 eb_1498
noncomputable def d_L_1700 := gq_1 db67g_11 eb_483
noncomputable def d_L_1701 := gq_2 db67g_11 eb_1499
noncomputable def d_L_1704 := gq_3 db67g_11 eb_24
noncomputable def d_L_1705 := gq_4 db67g_11 eb_0
noncomputable def d_L_1706 := gq_5 db67g_11 eb_77
noncomputable def d_L_1708 := gq_6 db67g_11 eb_20
noncomputable def d_L_1709 := gq_7 db67g_11 eb_36
noncomputable def d_L_1710 := gq_8 db67g_11 eb_38
noncomputable def d_L_1711 := gq_9 db67g_11 eb_661
noncomputable def d_L_1714 := gq_10 db67g_11 eb_483
noncomputable def d_L_1715 := gq_11 db67g_11 eb_304
noncomputable def d_L_1716 := gq_12 db67g_11 eb_0
noncomputable def d_L_1717 := gq_13 db67g_11 eb_77
noncomputable def d_L_1719 := gq_14 db67g_11 eb_20
noncomputable def d_L_1720 := gq_15 db67g_11 eb_36
noncomputable def d_L_1721 := gq_16 db67g_11 eb_38
noncomputable def d_L_1722 := gq_17 db67g_11 eb_1500
noncomputable def d_L_1725 := gq_18 db67g_11 eb_483
noncomputable def d_L_1726 := gq_19 db67g_11 eb_1501
noncomputable def d_L_1729 := gq_20 db67g_11 eb_24
noncomputable def d_L_1730 := gq_21 db67g_11 eb_0
noncomputable def d_L_1731 := gq_22 db67g_11 eb_77
noncomputable def d_L_1733 := gq_23 db67g_11 eb_20
theorem db67g_12 : Pf_ code [(1734, [0x60]), (1735, [0x2e]), (1736, [0x2a]), (1737, [0x15, 0x04]), (1739, [0x05]), (1740, [0x60]), (1741, [0x2e]), (1742, [0x2a]), (1743, [0x15, 0x04]), (1745, [0x06]), (1746, [0x60]), (1747, [0x2e]), (1748, [0xb6, 0x00, 0xb7]), (1751, [0x57]), (1752, [0x2c]), (1753, [0x2a]), (1754, [0x15, 0x04]), (1756, [0x04]), (1757, [0x60]), (1758, [0x2e]), (1759, [0x2a]), (1760, [0x15, 0x04]), (1762, [0x05]), (1763, [0x60])] := pf_ok code _ 1734 (by decide +kernel)
noncomputable def d_L_1734 := gq_0 db67g_12 eb_36
noncomputable def d_L_1735 := gq_1 db67g_12 eb_38
noncomputable def d_L_1736 := gq_2 db67g_12 eb_0
noncomputable def d_L_1737 := gq_3 db67g_12 eb_77
noncomputable def d_L_1739 := gq_4 db67g_12 eb_11
noncomputable def d_L_1740 := gq_5 db67g_12 eb_36
noncomputable def d_L_1741 := gq_6 db67g_12 eb_38
noncomputable def d_L_1742 := gq_7 db67g_12 eb_0
noncomputable def d_L_1743 := gq_8 db67g_12 eb_77
noncomputable def d_L_1745 := gq_9 db67g_12 eb_55
noncomputable def d_L_1746 := gq_10 db67g_12 eb_36
noncomputable def d_L_1747 := gq_11 db67g_12 eb_38
noncomputable def d_L_1748 := gq_12 db67g_12 eb_1502
noncomputable def d_L_1751 := gq_13 db67g_12 eb_483
noncomputable def d_L_1752 := gq_14 db67g_12 eb_304
noncomputable def d_L_1753 := gq_15 db67g_12 eb_0
noncomputable def d_L_1754 := gq_16 db67g_12 eb_77
noncomputable def d_L_1756 := gq_17 db67g_12 eb_20
noncomputable def d_L_1757 := gq_18 db67g_12 eb_36
noncomputable def d_L_1758 := gq_19 db67g_12 eb_38
noncomputable def d_L_1759 := gq_20 db67g_12 eb_0
noncomputable def d_L_1760 := gq_21 db67g_12 eb_77
noncomputable def d_L_1762 := gq_22 db67g_12 eb_11
noncomputable def d_L_1763 := gq_23 db67g_12 eb_36
theorem db67g_13 : Pf_ code [(1764, [0x2e]), (1765, [0x2a]), (1766, [0x15, 0x04]), (1768, [0x06]), (1769, [0x60]), (1770, [0x2e]), (1771, [0xb6, 0x00, 0xba]), (1774, [0x57]), (1775, [0xa7, 0x02, 0x77]), (1778, [0x2b]), (1779, [0x2a]), (1780, [0x15, 0x04]), (1782, [0x04]), (1783, [0x60]), (1784, [0x2e]), (1785, [0x2a]), (1786, [0x15, 0x04]), (1788, [0x05]), (1789, [0x60]), (1790, [0x2e]), (1791, [0xb6, 0x00, 0xbb]), (1794, [0x57]), (1795, [0x2c]), (1796, [0x2a])] := pf_ok code _ 1764 (by decide +kernel)
noncomputable def d_L_1764 := gq_0 db67g_13 eb_38
noncomputable def d_L_1765 := gq_1 db67g_13 eb_0
noncomputable def d_L_1766 := gq_2 db67g_13 eb_77
noncomputable def d_L_1768 := gq_3 db67g_13 eb_55
noncomputable def d_L_1769 := gq_4 db67g_13 eb_36
noncomputable def d_L_1770 := gq_5 db67g_13 eb_38
noncomputable def d_L_1771 := gq_6 db67g_13 eb_663
noncomputable def d_L_1774 := gq_7 db67g_13 eb_483
noncomputable def d_L_1775 := gq_8 db67g_13 eb_1503
noncomputable def d_L_1778 := gq_9 db67g_13 eb_24
noncomputable def d_L_1779 := gq_10 db67g_13 eb_0
noncomputable def d_L_1780 := gq_11 db67g_13 eb_77
noncomputable def d_L_1782 := gq_12 db67g_13 eb_20
noncomputable def d_L_1783 := gq_13 db67g_13 eb_36
noncomputable def d_L_1784 := gq_14 db67g_13 eb_38
noncomputable def d_L_1785 := gq_15 db67g_13 eb_0
noncomputable def d_L_1786 := gq_16 db67g_13 eb_77
noncomputable def d_L_1788 := gq_17 db67g_13 eb_11
noncomputable def d_L_1789 := gq_18 db67g_13 eb_36
noncomputable def d_L_1790 := gq_19 db67g_13 eb_38
noncomputable def d_L_1791 := gq_20 db67g_13 eb_1504
noncomputable def d_L_1794 := gq_21 db67g_13 eb_483
noncomputable def d_L_1795 := gq_22 db67g_13 eb_304
noncomputable def d_L_1796 := gq_23 db67g_13 eb_0
theorem db67g_14 : Pf_ code [(1797, [0x15, 0x04]), (1799, [0x04]), (1800, [0x60]), (1801, [0x2e]), (1802, [0x2a]), (1803, [0x15, 0x04]), (1805, [0x05]), (1806, [0x60]), (1807, [0x2e]), (1808, [0xb6, 0x00, 0xbe]), (1811, [0x57]), (1812, [0xa7, 0x02, 0x52]), (1815, [0x2b]), (1816, [0x2a]), (1817, [0x15, 0x04]), (1819, [0x04]), (1820, [0x60]), (1821, [0x2e]), (1822, [0xb6, 0x00, 0xbf]), (1825, [0x57]), (1826, [0x2c]), (1827, [0x2a]), (1828, [0x15, 0x04]), (1830, [0x04])] := pf_ok code _ 1797 (by decide +kernel)
noncomputable def d_L_1797 := gq_0 db67g_14 eb_77
noncomputable def d_L_1799 := gq_1 db67g_14 eb_20
noncomputable def d_L_1800 := gq_2 db67g_14 eb_36
noncomputable def d_L_1801 := gq_3 db67g_14 eb_38
noncomputable def d_L_1802 := gq_4 db67g_14 eb_0
noncomputable def d_L_1803 := gq_5 db67g_14 eb_77
noncomputable def d_L_1805 := gq_6 db67g_14 eb_11
noncomputable def d_L_1806 := gq_7 db67g_14 eb_36
noncomputable def d_L_1807 := gq_8 db67g_14 eb_38
noncomputable def d_L_1808 := gq_9 db67g_14 eb_1505
noncomputable def d_L_1811 := gq_10 db67g_14 eb_483
noncomputable def d_L_1812 := gq_11 db67g_14 eb_1506
noncomputable def d_L_1815 := gq_12 db67g_14 eb_24
noncomputable def d_L_1816 := gq_13 db67g_14 eb_0
noncomputable def d_L_1817 := gq_14 db67g_14 eb_77
noncomputable def d_L_1819 := gq_15 db67g_14 eb_20
noncomputable def d_L_1820 := gq_16 db67g_14 eb_36
noncomputable def d_L_1821 := gq_17 db67g_14 eb_38
noncomputable def d_L_1822 := gq_18 db67g_14 eb_1507
noncomputable def d_L_1825 := gq_19 db67g_14 eb_483
noncomputable def d_L_1826 := gq_20 db67g_14 eb_304
noncomputable def d_L_1827 := gq_21 db67g_14 eb_0
noncomputable def d_L_1828 := gq_22 db67g_14 eb_77
noncomputable def d_L_1830 := gq_23 db67g_14 eb_20
theorem db67g_15 : Pf_ code [(1831, [0x60]), (1832, [0x2e]), (1833, [0xb6, 0x00, 0xc2]), (1836, [0x57]), (1837, [0xa7, 0x02, 0x39]), (1840, [0x2b]), (1841, [0x2a]), (1842, [0x15, 0x04]), (1844, [0x04]), (1845, [0x60]), (1846, [0x2e]), (1847, [0x2a]), (1848, [0x15, 0x04]), (1850, [0x05]), (1851, [0x60]), (1852, [0x2e]), (1853, [0xb6, 0x00, 0xc3]), (1856, [0x57]), (1857, [0x2c]), (1858, [0x2a]), (1859, [0x15, 0x04]), (1861, [0x04]), (1862, [0x60]), (1863, [0x2e])] := pf_ok code _ 1831 (by decide +kernel)
noncomputable def d_L_1831 := gq_0 db67g_15 eb_36
noncomputable def d_L_1832 := gq_1 db67g_15 eb_38
noncomputable def d_L_1833 := gq_2 db67g_15 eb_1508
noncomputable def d_L_1836 := gq_3 db67g_15 eb_483
noncomputable def d_L_1837 := gq_4 db67g_15 eb_1509
noncomputable def d_L_1840 := gq_5 db67g_15 eb_24
noncomputable def d_L_1841 := gq_6 db67g_15 eb_0
noncomputable def d_L_1842 := gq_7 db67g_15 eb_77
noncomputable def d_L_1844 := gq_8 db67g_15 eb_20
noncomputable def d_L_1845 := gq_9 db67g_15 eb_36
noncomputable def d_L_1846 := gq_10 db67g_15 eb_38
noncomputable def d_L_1847 := gq_11 db67g_15 eb_0
noncomputable def d_L_1848 := gq_12 db67g_15 eb_77
noncomputable def d_L_1850 := gq_13 db67g_15 eb_11
noncomputable def d_L_1851 := gq_14 db67g_15 eb_36
noncomputable def d_L_1852 := gq_15 db67g_15 eb_38
noncomputable def d_L_1853 := gq_16 db67g_15 eb_1510
noncomputable def d_L_1856 := gq_17 db67g_15 eb_483
noncomputable def d_L_1857 := gq_18 db67g_15 eb_304
noncomputable def d_L_1858 := gq_19 db67g_15 eb_0
noncomputable def d_L_1859 := gq_20 db67g_15 eb_77
noncomputable def d_L_1861 := gq_21 db67g_15 eb_20
noncomputable def d_L_1862 := gq_22 db67g_15 eb_36
noncomputable def d_L_1863 := gq_23 db67g_15 eb_38
theorem db67g_16 : Pf_ code [(1864, [0x2a]), (1865, [0x15, 0x04]), (1867, [0x05]), (1868, [0x60]), (1869, [0x2e]), (1870, [0xb6, 0x00, 0xc6]), (1873, [0x57])] := pf_ok code _ 1864 (by decide +kernel)
noncomputable def d_L_1864 := gq_0 db67g_16 eb_0
noncomputable def d_L_1865 := gq_1 db67g_16 eb_77
noncomputable def d_L_1867 := gq_2 db67g_16 eb_11
noncomputable def d_L_1868 := gq_3 db67g_16 eb_36
noncomputable def d_L_1869 := gq_4 db67g_16 eb_38
noncomputable def d_L_1870 := gq_5 db67g_16 eb_1511
noncomputable def d_L_1873 := gq_6 db67g_16 eb_483
end
section
theorem db67h_0 : Pf_ code [(1874, [0xa7, 0x02, 0x14]), (1877, [0x2b]), (1878, [0x2a]), (1879, [0x15, 0x04]), (1881, [0x04]), (1882, [0x60]), (1883, [0x2e]), (1884, [0x2a]), (1885, [0x15, 0x04]), (1887, [0x05]), (1888, [0x60]), (1889, [0x2e]), (1890, [0x2a]), (1891, [0x15, 0x04]), (1893, [0x06]), (1894, [0x60]), (1895, [0x2e]), (1896, [0xb6, 0x00, 0xc7]), (1899, [0x57]), (1900, [0x2c]), (1901, [0x2a]), (1902, [0x15, 0x04]), (1904, [0x04]), (1905, [0x60])] := pf_ok code _ 1874 (by decide +kernel)
noncomputable def d_L_1874 := gq_0 db67h_0 eb_1512
noncomputable def d_L_1877 := gq_1 db67h_0 eb_24
noncomputable def d_L_1878 := gq_2 db67h_0 eb_0
noncomputable def d_L_1879 := gq_3 db67h_0 eb_77
noncomputable def d_L_1881 := gq_4 db67h_0 eb_20
noncomputable def d_L_1882 := gq_5 db67h_0 eb_36
noncomputable def d_L_1883 := gq_6 db67h_0 eb_38
noncomputable def d_L_1884 := gq_7 db67h_0 eb_0
noncomputable def d_L_1885 := gq_8 db67h_0 eb_77
noncomputable def d_L_1887 := gq_9 db67h_0 eb_11
noncomputable def d_L_1888 := gq_10 db67h_0 eb_36
noncomputable def d_L_1889 := gq_11 db67h_0 eb_38
noncomputable def d_L_1890 := gq_12 db67h_0 eb_0
noncomputable def d_L_1891 := gq_13 db67h_0 eb_77
noncomputable def d_L_1893 := gq_14 db67h_0 eb_55
noncomputable def d_L_1894 := gq_15 db67h_0 eb_36
noncomputable def d_L_1895 := gq_16 db67h_0 eb_38
noncomputable def d_L_1896 := gq_17 db67h_0 eb_1513
noncomputable def d_L_1899 := gq_18 db67h_0 eb_483
noncomputable def d_L_1900 := gq_19 db67h_0 eb_304
noncomputable def d_L_1901 := gq_20 db67h_0 eb_0
noncomputable def d_L_1902 := gq_21 db67h_0 eb_77
noncomputable def d_L_1904 := gq_22 db67h_0 eb_20
noncomputable def d_L_1905 := gq_23 db67h_0 eb_36
theorem db67h_1 : Pf_ code [(1906, [0x2e]), (1907, [0x2a]), (1908, [0x15, 0x04]), (1910, [0x05]), (1911, [0x60]), (1912, [0x2e]), (1913, [0x2a]), (1914, [0x15, 0x04]), (1916, [0x06]), (1917, [0x60]), (1918, [0x2e]), (1919, [0xb6, 0x00, 0xca]), (1922, [0x57]), (1923, [0xa7, 0x01, 0xe3]), (1926, [0x2b]), (1927, [0x2a]), (1928, [0x15, 0x04]), (1930, [0x04]), (1931, [0x60]), (1932, [0x2e]), (1933, [0xb6, 0x00, 0xcb]), (1936, [0x57]), (1937, [0x2c]), (1938, [0x2a])] := pf_ok code _ 1906 (by decide +kernel)
noncomputable def d_L_1906 := gq_0 db67h_1 eb_38
noncomputable def d_L_1907 := gq_1 db67h_1 eb_0
noncomputable def d_L_1908 := gq_2 db67h_1 eb_77
noncomputable def d_L_1910 := gq_3 db67h_1 eb_11
noncomputable def d_L_1911 := gq_4 db67h_1 eb_36
noncomputable def d_L_1912 := gq_5 db67h_1 eb_38
noncomputable def d_L_1913 := gq_6 db67h_1 eb_0
noncomputable def d_L_1914 := gq_7 db67h_1 eb_77
noncomputable def d_L_1916 := gq_8 db67h_1 eb_55
noncomputable def d_L_1917 := gq_9 db67h_1 eb_36
noncomputable def d_L_1918 := gq_10 db67h_1 eb_38
noncomputable def d_L_1919 := gq_11 db67h_1 eb_1514
noncomputable def d_L_1922 := gq_12 db67h_1 eb_483
noncomputable def d_L_1923 := gq_13 db67h_1 eb_1515
noncomputable def d_L_1926 := gq_14 db67h_1 eb_24
noncomputable def d_L_1927 := gq_15 db67h_1 eb_0
noncomputable def d_L_1928 := gq_16 db67h_1 eb_77
noncomputable def d_L_1930 := gq_17 db67h_1 eb_20
noncomputable def d_L_1931 := gq_18 db67h_1 eb_36
noncomputable def d_L_1932 := gq_19 db67h_1 eb_38
noncomputable def d_L_1933 := gq_20 db67h_1 eb_1516
noncomputable def d_L_1936 := gq_21 db67h_1 eb_483
noncomputable def d_L_1937 := gq_22 db67h_1 eb_304
noncomputable def d_L_1938 := gq_23 db67h_1 eb_0
theorem db67h_2 : Pf_ code [(1939, [0x15, 0x04]), (1941, [0x04]), (1942, [0x60]), (1943, [0x2e]), (1944, [0xb6, 0x00, 0xce]), (1947, [0x57]), (1948, [0xa7, 0x01, 0xca]), (1951, [0x2b]), (1952, [0x2a]), (1953, [0x15, 0x04]), (1955, [0x04]), (1956, [0x60]), (1957, [0x2e]), (1958, [0xb6, 0x00, 0xcf]), (1961, [0x57]), (1962, [0x2c]), (1963, [0x2a]), (1964, [0x15, 0x04]), (1966, [0x04]), (1967, [0x60]), (1968, [0x2e]), (1969, [0xb6, 0x00, 0xd2]), (1972, [0x57]), (1973, [0xa7, 0x01, 0xb1])] := pf_ok code _ 1939 (by decide +kernel)
noncomputable def d_L_1939 := gq_0 db67h_2 eb_77
noncomputable def d_L_1941 := gq_1 db67h_2 eb_20
noncomputable def d_L_1942 := gq_2 db67h_2 eb_36
noncomputable def d_L_1943 := gq_3 db67h_2 eb_38
noncomputable def d_L_1944 := gq_4 db67h_2 eb_1517
noncomputable def d_L_1947 := gq_5 db67h_2 eb_483
noncomputable def d_L_1948 := gq_6 db67h_2 eb_1518
noncomputable def d_L_1951 := gq_7 db67h_2 eb_24
noncomputable def d_L_1952 := gq_8 db67h_2 eb_0
noncomputable def d_L_1953 := gq_9 db67h_2 eb_77
noncomputable def d_L_1955 := gq_10 db67h_2 eb_20
noncomputable def d_L_1956 := gq_11 db67h_2 eb_36
noncomputable def d_L_1957 := gq_12 db67h_2 eb_38
noncomputable def d_L_1958 := gq_13 db67h_2 eb_676
noncomputable def d_L_1961 := gq_14 db67h_2 eb_483
noncomputable def d_L_1962 := gq_15 db67h_2 eb_304
noncomputable def d_L_1963 := gq_16 db67h_2 eb_0
noncomputable def d_L_1964 := gq_17 db67h_2 eb_77
noncomputable def d_L_1966 := gq_18 db67h_2 eb_20
noncomputable def d_L_1967 := gq_19 db67h_2 eb_36
noncomputable def d_L_1968 := gq_20 db67h_2 eb_38
noncomputable def d_L_1969 := gq_21 db67h_2 eb_1519
noncomputable def d_L_1972 := gq_22 db67h_2 eb_483
noncomputable def d_L_1973 := gq_23 db67h_2 eb_1520
theorem db67h_3 : Pf_ code [(1976, [0x2b]), (1977, [0xb6, 0x00, 0xd3]), (1980, [0x2c]), (1981, [0xb6, 0x00, 0xd6]), (1984, [0xa7, 0x01, 0xa6]), (1987, [0x2b]), (1988, [0x2a]), (1989, [0x15, 0x04]), (1991, [0x04]), (1992, [0x60]), (1993, [0x2e]), (1994, [0xb6, 0x00, 0xd7]), (1997, [0x57]), (1998, [0x2c]), (1999, [0x2a]), (2000, [0x15, 0x04]), (2002, [0x04]), (2003, [0x60]), (2004, [0x2e]), (2005, [0xb6, 0x00, 0xda]), (2008, [0x57]), (2009, [0xa7, 0x01, 0x8d]), (2012, [0x2b]), (2013, [0x2a])] := pf_ok code _ 1976 (by decide +kernel)
noncomputable def d_L_1976 := gq_0 db67h_3 eb_24
noncomputable def d_L_1977 := gq_1 db67h_3 eb_1521
noncomputable def d_L_1980 := gq_2 db67h_3 eb_304
noncomputable def d_L_1981 := gq_3 db67h_3 eb_1522
noncomputable def d_L_1984 := gq_4 db67h_3 eb_1523
noncomputable def d_L_1987 := gq_5 db67h_3 eb_24
noncomputable def d_L_1988 := gq_6 db67h_3 eb_0
noncomputable def d_L_1989 := gq_7 db67h_3 eb_77
noncomputable def d_L_1991 := gq_8 db67h_3 eb_20
noncomputable def d_L_1992 := gq_9 db67h_3 eb_36
noncomputable def d_L_1993 := gq_10 db67h_3 eb_38
noncomputable def d_L_1994 := gq_11 db67h_3 eb_1524
noncomputable def d_L_1997 := gq_12 db67h_3 eb_483
noncomputable def d_L_1998 := gq_13 db67h_3 eb_304
noncomputable def d_L_1999 := gq_14 db67h_3 eb_0
noncomputable def d_L_2000 := gq_15 db67h_3 eb_77
noncomputable def d_L_2002 := gq_16 db67h_3 eb_20
noncomputable def d_L_2003 := gq_17 db67h_3 eb_36
noncomputable def d_L_2004 := gq_18 db67h_3 eb_38
noncomputable def d_L_2005 := gq_19 db67h_3 eb_1525
noncomputable def d_L_2008 := gq_20 db67h_3 eb_483
noncomputable def d_L_2009 := gq_21 db67h_3 eb_1526
noncomputable def d_L_2012 := gq_22 db67h_3 eb_24
noncomputable def d_L_2013 := gq_23 db67h_3 eb_0
theorem db67h_4 : Pf_ code [(2014, [0x15, 0x04]), (2016, [0x04]), (2017, [0x60]), (2018, [0x2e]), (2019, [0x2a]), (2020, [0x15, 0x04]), (2022, [0x05]), (2023, [0x60]), (2024, [0x2e]), (2025, [0x2a]), (2026, [0x15, 0x04]), (2028, [0x06]), (2029, [0x60]), (2030, [0x2e]), (2031, [0xb6, 0x00, 0xdb]), (2034, [0x57]), (2035, [0x2c]), (2036, [0x2a]), (2037, [0x15, 0x04]), (2039, [0x04]), (2040, [0x60]), (2041, [0x2e]), (2042, [0x2a]), (2043, [0x15, 0x04])] := pf_ok code _ 2014 (by decide +kernel)
noncomputable def d_L_2014 := gq_0 db67h_4 eb_77
noncomputable def d_L_2016 := gq_1 db67h_4 eb_20
noncomputable def d_L_2017 := gq_2 db67h_4 eb_36
noncomputable def d_L_2018 := gq_3 db67h_4 eb_38
noncomputable def d_L_2019 := gq_4 db67h_4 eb_0
noncomputable def d_L_2020 := gq_5 db67h_4 eb_77
noncomputable def d_L_2022 := gq_6 db67h_4 eb_11
noncomputable def d_L_2023 := gq_7 db67h_4 eb_36
noncomputable def d_L_2024 := gq_8 db67h_4 eb_38
noncomputable def d_L_2025 := gq_9 db67h_4 eb_0
noncomputable def d_L_2026 := gq_10 db67h_4 eb_77
noncomputable def d_L_2028 := gq_11 db67h_4 eb_55
noncomputable def d_L_2029 := gq_12 db67h_4 eb_36
noncomputable def d_L_2030 := gq_13 db67h_4 eb_38
noncomputable def d_L_2031 := gq_14 db67h_4 eb_1527
noncomputable def d_L_2034 := gq_15 db67h_4 eb_483
noncomputable def d_L_2035 := gq_16 db67h_4 eb_304
noncomputable def d_L_2036 := gq_17 db67h_4 eb_0
noncomputable def d_L_2037 := gq_18 db67h_4 eb_77
noncomputable def d_L_2039 := gq_19 db67h_4 eb_20
noncomputable def d_L_2040 := gq_20 db67h_4 eb_36
noncomputable def d_L_2041 := gq_21 db67h_4 eb_38
noncomputable def d_L_2042 := gq_22 db67h_4 eb_0
noncomputable def d_L_2043 := gq_23 db67h_4 eb_77
theorem db67h_5 : Pf_ code [(2045, [0x05]), (2046, [0x60]), (2047, [0x2e]), (2048, [0x2a]), (2049, [0x15, 0x04]), (2051, [0x06]), (2052, [0x60]), (2053, [0x2e]), (2054, [0xb6, 0x00, 0xde]), (2057, [0x57]), (2058, [0xa7, 0x01, 0x5c]), (2061, [0x2b]), (2062, [0x2a]), (2063, [0x15, 0x04]), (2065, [0x04]), (2066, [0x60]), (2067, [0x2e]), (2068, [0x2a]), (2069, [0x15, 0x04]), (2071, [0x05]), (2072, [0x60]), (2073, [0x2e]), (2074, [0x2a]), (2075, [0x15, 0x04])] := pf_ok code _ 2045 (by decide +kernel)
noncomputable def d_L_2045 := gq_0 db67h_5 eb_11
noncomputable def d_L_2046 := gq_1 db67h_5 eb_36
noncomputable def d_L_2047 := gq_2 db67h_5 eb_38
noncomputable def d_L_2048 := gq_3 db67h_5 eb_0
noncomputable def d_L_2049 := gq_4 db67h_5 eb_77
noncomputable def d_L_2051 := gq_5 db67h_5 eb_55
noncomputable def d_L_2052 := gq_6 db67h_5 eb_36
noncomputable def d_L_2053 := gq_7 db67h_5 eb_38
noncomputable def d_L_2054 := gq_8 db67h_5 eb_681
noncomputable def d_L_2057 := gq_9 db67h_5 eb_483
noncomputable def d_L_2058 := gq_10 db67h_5 eb_1528
noncomputable def d_L_2061 := gq_11 db67h_5 eb_24
noncomputable def d_L_2062 := gq_12 db67h_5 eb_0
noncomputable def d_L_2063 := gq_13 db67h_5 eb_77
noncomputable def d_L_2065 := gq_14 db67h_5 eb_20
noncomputable def d_L_2066 := gq_15 db67h_5 eb_36
noncomputable def d_L_2067 := gq_16 db67h_5 eb_38
noncomputable def d_L_2068 := gq_17 db67h_5 eb_0
noncomputable def d_L_2069 := gq_18 db67h_5 eb_77
noncomputable def d_L_2071 := gq_19 db67h_5 eb_11
noncomputable def d_L_2072 := gq_20 db67h_5 eb_36
noncomputable def d_L_2073 := gq_21 db67h_5 eb_38
noncomputable def d_L_2074 := gq_22 db67h_5 eb_0
noncomputable def d_L_2075 := gq_23 db67h_5 eb_77
theorem db67h_6 : Pf_ code [(2077, [0x06]), (2078, [0x60]), (2079, [0x2e]), (2080, [0xb6, 0x00, 0xdf]), (2083, [0x57]), (2084, [0x2c]), (2085, [0x2a]), (2086, [0x15, 0x04]), (2088, [0x04]), (2089, [0x60]), (2090, [0x2e]), (2091, [0x2a]), (2092, [0x15, 0x04]), (2094, [0x05]), (2095, [0x60]), (2096, [0x2e]), (2097, [0x2a]), (2098, [0x15, 0x04]), (2100, [0x06]), (2101, [0x60]), (2102, [0x2e]), (2103, [0xb6, 0x00, 0xe2]), (2106, [0x57]), (2107, [0xa7, 0x01, 0x2b])] := pf_ok code _ 2077 (by decide +kernel)
noncomputable def d_L_2077 := gq_0 db67h_6 eb_55
noncomputable def d_L_2078 := gq_1 db67h_6 eb_36
noncomputable def d_L_2079 := gq_2 db67h_6 eb_38
noncomputable def d_L_2080 := gq_3 db67h_6 eb_1529
noncomputable def d_L_2083 := gq_4 db67h_6 eb_483
noncomputable def d_L_2084 := gq_5 db67h_6 eb_304
noncomputable def d_L_2085 := gq_6 db67h_6 eb_0
noncomputable def d_L_2086 := gq_7 db67h_6 eb_77
noncomputable def d_L_2088 := gq_8 db67h_6 eb_20
noncomputable def d_L_2089 := gq_9 db67h_6 eb_36
noncomputable def d_L_2090 := gq_10 db67h_6 eb_38
noncomputable def d_L_2091 := gq_11 db67h_6 eb_0
noncomputable def d_L_2092 := gq_12 db67h_6 eb_77
noncomputable def d_L_2094 := gq_13 db67h_6 eb_11
noncomputable def d_L_2095 := gq_14 db67h_6 eb_36
noncomputable def d_L_2096 := gq_15 db67h_6 eb_38
noncomputable def d_L_2097 := gq_16 db67h_6 eb_0
noncomputable def d_L_2098 := gq_17 db67h_6 eb_77
noncomputable def d_L_2100 := gq_18 db67h_6 eb_55
noncomputable def d_L_2101 := gq_19 db67h_6 eb_36
noncomputable def d_L_2102 := gq_20 db67h_6 eb_38
noncomputable def d_L_2103 := gq_21 db67h_6 eb_1530
noncomputable def d_L_2106 := gq_22 db67h_6 eb_483
noncomputable def d_L_2107 := gq_23 db67h_6 eb_1531
theorem db67h_7 : Pf_ code [(2110, [0x2b]), (2111, [0x2a]), (2112, [0x15, 0x04]), (2114, [0x04]), (2115, [0x60]), (2116, [0x2e]), (2117, [0x2a]), (2118, [0x15, 0x04]), (2120, [0x05]), (2121, [0x60]), (2122, [0x2e]), (2123, [0x2a]), (2124, [0x15, 0x04]), (2126, [0x06]), (2127, [0x60]), (2128, [0x2e]), (2129, [0xb6, 0x00, 0xe3]), (2132, [0x57]), (2133, [0x2c]), (2134, [0x2a]), (2135, [0x15, 0x04]), (2137, [0x04]), (2138, [0x60]), (2139, [0x2e])] := pf_ok code _ 2110 (by decide +kernel)
noncomputable def d_L_2110 := gq_0 db67h_7 eb_24
noncomputable def d_L_2111 := gq_1 db67h_7 eb_0
noncomputable def d_L_2112 := gq_2 db67h_7 eb_77
noncomputable def d_L_2114 := gq_3 db67h_7 eb_20
noncomputable def d_L_2115 := gq_4 db67h_7 eb_36
noncomputable def d_L_2116 := gq_5 db67h_7 eb_38
noncomputable def d_L_2117 := gq_6 db67h_7 eb_0
noncomputable def d_L_2118 := gq_7 db67h_7 eb_77
noncomputable def d_L_2120 := gq_8 db67h_7 eb_11
noncomputable def d_L_2121 := gq_9 db67h_7 eb_36
noncomputable def d_L_2122 := gq_10 db67h_7 eb_38
noncomputable def d_L_2123 := gq_11 db67h_7 eb_0
noncomputable def d_L_2124 := gq_12 db67h_7 eb_77
noncomputable def d_L_2126 := gq_13 db67h_7 eb_55
noncomputable def d_L_2127 := gq_14 db67h_7 eb_36
noncomputable def d_L_2128 := gq_15 db67h_7 eb_38
noncomputable def d_L_2129 := gq_16 db67h_7 eb_1532
noncomputable def d_L_2132 := gq_17 db67h_7 eb_483
noncomputable def d_L_2133 := gq_18 db67h_7 eb_304
noncomputable def d_L_2134 := gq_19 db67h_7 eb_0
noncomputable def d_L_2135 := gq_20 db67h_7 eb_77
noncomputable def d_L_2137 := gq_21 db67h_7 eb_20
noncomputable def d_L_2138 := gq_22 db67h_7 eb_36
noncomputable def d_L_2139 := gq_23 db67h_7 eb_38
theorem db67h_8 : Pf_ code [(2140, [0x2a]), (2141, [0x15, 0x04]), (2143, [0x05]), (2144, [0x60]), (2145, [0x2e]), (2146, [0x2a]), (2147, [0x15, 0x04]), (2149, [0x06]), (2150, [0x60]), (2151, [0x2e]), (2152, [0xb6, 0x00, 0xe6]), (2155, [0x57]), (2156, [0xa7, 0x00, 0xfa]), (2159, [0x2b]), (2160, [0xb6, 0x00, 0xe7]), (2163, [0x2c]), (2164, [0xb6, 0x00, 0xea]), (2167, [0x9f, 0x00, 0xef]), (2170, [0x03]), (2171, [0xac]), (2172, [0x2b]), (2173, [0x2a]), (2174, [0x15, 0x04]), (2176, [0x04])] := pf_ok code _ 2140 (by decide +kernel)
noncomputable def d_L_2140 := gq_0 db67h_8 eb_0
noncomputable def d_L_2141 := gq_1 db67h_8 eb_77
noncomputable def d_L_2143 := gq_2 db67h_8 eb_11
noncomputable def d_L_2144 := gq_3 db67h_8 eb_36
noncomputable def d_L_2145 := gq_4 db67h_8 eb_38
noncomputable def d_L_2146 := gq_5 db67h_8 eb_0
noncomputable def d_L_2147 := gq_6 db67h_8 eb_77
noncomputable def d_L_2149 := gq_7 db67h_8 eb_55
noncomputable def d_L_2150 := gq_8 db67h_8 eb_36
noncomputable def d_L_2151 := gq_9 db67h_8 eb_38
noncomputable def d_L_2152 := gq_10 db67h_8 eb_1533
noncomputable def d_L_2155 := gq_11 db67h_8 eb_483
noncomputable def d_L_2156 := gq_12 db67h_8 eb_1534
noncomputable def d_L_2159 := gq_13 db67h_8 eb_24
noncomputable def d_L_2160 := gq_14 db67h_8 eb_1535
noncomputable def d_L_2163 := gq_15 db67h_8 eb_304
noncomputable def d_L_2164 := gq_16 db67h_8 eb_1536
noncomputable def d_L_2167 := gq_17 db67h_8 eb_1537
noncomputable def d_L_2172 := gq_20 db67h_8 eb_24
noncomputable def d_L_2173 := gq_21 db67h_8 eb_0
noncomputable def d_L_2174 := gq_22 db67h_8 eb_77
noncomputable def d_L_2176 := gq_23 db67h_8 eb_20
theorem db67h_9 : Pf_ code [(2177, [0x60]), (2178, [0x2e]), (2179, [0x2a]), (2180, [0x15, 0x04]), (2182, [0x05]), (2183, [0x60]), (2184, [0x2e]), (2185, [0xb6, 0x00, 0xeb]), (2188, [0x57]), (2189, [0x2c]), (2190, [0x2a]), (2191, [0x15, 0x04]), (2193, [0x04]), (2194, [0x60]), (2195, [0x2e]), (2196, [0x2a]), (2197, [0x15, 0x04]), (2199, [0x05]), (2200, [0x60]), (2201, [0x2e]), (2202, [0xb6, 0x00, 0xee]), (2205, [0x57]), (2206, [0xa7, 0x00, 0xc8]), (2209, [0x2b])] := pf_ok code _ 2177 (by decide +kernel)
noncomputable def d_L_2177 := gq_0 db67h_9 eb_36
noncomputable def d_L_2178 := gq_1 db67h_9 eb_38
noncomputable def d_L_2179 := gq_2 db67h_9 eb_0
noncomputable def d_L_2180 := gq_3 db67h_9 eb_77
noncomputable def d_L_2182 := gq_4 db67h_9 eb_11
noncomputable def d_L_2183 := gq_5 db67h_9 eb_36
noncomputable def d_L_2184 := gq_6 db67h_9 eb_38
noncomputable def d_L_2185 := gq_7 db67h_9 eb_1538
noncomputable def d_L_2188 := gq_8 db67h_9 eb_483
noncomputable def d_L_2189 := gq_9 db67h_9 eb_304
noncomputable def d_L_2190 := gq_10 db67h_9 eb_0
noncomputable def d_L_2191 := gq_11 db67h_9 eb_77
noncomputable def d_L_2193 := gq_12 db67h_9 eb_20
noncomputable def d_L_2194 := gq_13 db67h_9 eb_36
noncomputable def d_L_2195 := gq_14 db67h_9 eb_38
noncomputable def d_L_2196 := gq_15 db67h_9 eb_0
noncomputable def d_L_2197 := gq_16 db67h_9 eb_77
noncomputable def d_L_2199 := gq_17 db67h_9 eb_11
noncomputable def d_L_2200 := gq_18 db67h_9 eb_36
noncomputable def d_L_2201 := gq_19 db67h_9 eb_38
noncomputable def d_L_2202 := gq_20 db67h_9 eb_1539
noncomputable def d_L_2205 := gq_21 db67h_9 eb_483
noncomputable def d_L_2206 := gq_22 db67h_9 eb_1540
noncomputable def d_L_2209 := gq_23 db67h_9 eb_24
theorem db67h_10 : Pf_ code [(2210, [0x2a]), (2211, [0x15, 0x04]), (2213, [0x04]), (2214, [0x60]), (2215, [0x2e]), (2216, [0x2a]), (2217, [0x15, 0x04]), (2219, [0x05]), (2220, [0x60]), (2221, [0x2e]), (2222, [0x2a]), (2223, [0x15, 0x04]), (2225, [0x06]), (2226, [0x60]), (2227, [0x2e]), (2228, [0xb6, 0x00, 0xef]), (2231, [0x57]), (2232, [0x2c]), (2233, [0x2a]), (2234, [0x15, 0x04]), (2236, [0x04]), (2237, [0x60]), (2238, [0x2e]), (2239, [0x2a])] := pf_ok code _ 2210 (by decide +kernel)
noncomputable def d_L_2210 := gq_0 db67h_10 eb_0
noncomputable def d_L_2211 := gq_1 db67h_10 eb_77
noncomputable def d_L_2213 := gq_2 db67h_10 eb_20
noncomputable def d_L_2214 := gq_3 db67h_10 eb_36
noncomputable def d_L_2215 := gq_4 db67h_10 eb_38
noncomputable def d_L_2216 := gq_5 db67h_10 eb_0
noncomputable def d_L_2217 := gq_6 db67h_10 eb_77
noncomputable def d_L_2219 := gq_7 db67h_10 eb_11
noncomputable def d_L_2220 := gq_8 db67h_10 eb_36
noncomputable def d_L_2221 := gq_9 db67h_10 eb_38
noncomputable def d_L_2222 := gq_10 db67h_10 eb_0
noncomputable def d_L_2223 := gq_11 db67h_10 eb_77
noncomputable def d_L_2225 := gq_12 db67h_10 eb_55
noncomputable def d_L_2226 := gq_13 db67h_10 eb_36
noncomputable def d_L_2227 := gq_14 db67h_10 eb_38
noncomputable def d_L_2228 := gq_15 db67h_10 eb_1541
noncomputable def d_L_2231 := gq_16 db67h_10 eb_483
noncomputable def d_L_2232 := gq_17 db67h_10 eb_304
noncomputable def d_L_2233 := gq_18 db67h_10 eb_0
noncomputable def d_L_2234 := gq_19 db67h_10 eb_77
noncomputable def d_L_2236 := gq_20 db67h_10 eb_20
noncomputable def d_L_2237 := gq_21 db67h_10 eb_36
noncomputable def d_L_2238 := gq_22 db67h_10 eb_38
noncomputable def d_L_2239 := gq_23 db67h_10 eb_0
theorem db67h_11 : Pf_ code [(2240, [0x15, 0x04]), (2242, [0x05]), (2243, [0x60]), (2244, [0x2e]), (2245, [0x2a]), (2246, [0x15, 0x04]), (2248, [0x06]), (2249, [0x60]), (2250, [0x2e]), (2251, [0xb6, 0x00, 0xf2]), (2254, [0x57]), (2255, [0xa7, 0x00, 0x97]), (2258, [0x2b]), (2259, [0x2a]), (2260, [0x15, 0x04]), (2262, [0x04]), (2263, [0x60]), (2264, [0x2e]), (2265, [0xb6, 0x00, 0xf3]), (2268, [0x57]), (2269, [0x2c]), (2270, [0x2a]), (2271, [0x15, 0x04]), (2273, [0x04])] := pf_ok code _ 2240 (by decide +kernel)
noncomputable def d_L_2240 := gq_0 db67h_11 eb_77
noncomputable def d_L_2242 := gq_1 db67h_11 eb_11
noncomputable def d_L_2243 := gq_2 db67h_11 eb_36
noncomputable def d_L_2244 := gq_3 db67h_11 eb_38
noncomputable def d_L_2245 := gq_4 db67h_11 eb_0
noncomputable def d_L_2246 := gq_5 db67h_11 eb_77
noncomputable def d_L_2248 := gq_6 db67h_11 eb_55
noncomputable def d_L_2249 := gq_7 db67h_11 eb_36
noncomputable def d_L_2250 := gq_8 db67h_11 eb_38
noncomputable def d_L_2251 := gq_9 db67h_11 eb_1542
noncomputable def d_L_2254 := gq_10 db67h_11 eb_483
noncomputable def d_L_2255 := gq_11 db67h_11 eb_1543
noncomputable def d_L_2258 := gq_12 db67h_11 eb_24
noncomputable def d_L_2259 := gq_13 db67h_11 eb_0
noncomputable def d_L_2260 := gq_14 db67h_11 eb_77
noncomputable def d_L_2262 := gq_15 db67h_11 eb_20
noncomputable def d_L_2263 := gq_16 db67h_11 eb_36
noncomputable def d_L_2264 := gq_17 db67h_11 eb_38
noncomputable def d_L_2265 := gq_18 db67h_11 eb_1544
noncomputable def d_L_2268 := gq_19 db67h_11 eb_483
noncomputable def d_L_2269 := gq_20 db67h_11 eb_304
noncomputable def d_L_2270 := gq_21 db67h_11 eb_0
noncomputable def d_L_2271 := gq_22 db67h_11 eb_77
noncomputable def d_L_2273 := gq_23 db67h_11 eb_20
theorem db67h_12 : Pf_ code [(2274, [0x60]), (2275, [0x2e]), (2276, [0xb6, 0x00, 0xf6]), (2279, [0x57]), (2280, [0xa7, 0x00, 0x7e]), (2283, [0x2b]), (2284, [0x2a]), (2285, [0x15, 0x04]), (2287, [0x04]), (2288, [0x60]), (2289, [0x2e]), (2290, [0x2a]), (2291, [0x15, 0x04]), (2293, [0x05]), (2294, [0x60]), (2295, [0x2e]), (2296, [0xb6, 0x00, 0xf7]), (2299, [0x57]), (2300, [0x2c]), (2301, [0x2a]), (2302, [0x15, 0x04]), (2304, [0x04]), (2305, [0x60]), (2306, [0x2e])] := pf_ok code _ 2274 (by decide +kernel)
noncomputable def d_L_2274 := gq_0 db67h_12 eb_36
noncomputable def d_L_2275 := gq_1 db67h_12 eb_38
noncomputable def d_L_2276 := gq_2 db67h_12 eb_1545
noncomputable def d_L_2279 := gq_3 db67h_12 eb_483
noncomputable def d_L_2280 := gq_4 db67h_12 eb_1546
noncomputable def d_L_2283 := gq_5 db67h_12 eb_24
noncomputable def d_L_2284 := gq_6 db67h_12 eb_0
noncomputable def d_L_2285 := gq_7 db67h_12 eb_77
noncomputable def d_L_2287 := gq_8 db67h_12 eb_20
noncomputable def d_L_2288 := gq_9 db67h_12 eb_36
noncomputable def d_L_2289 := gq_10 db67h_12 eb_38
noncomputable def d_L_2290 := gq_11 db67h_12 eb_0
noncomputable def d_L_2291 := gq_12 db67h_12 eb_77
noncomputable def d_L_2293 := gq_13 db67h_12 eb_11
noncomputable def d_L_2294 := gq_14 db67h_12 eb_36
noncomputable def d_L_2295 := gq_15 db67h_12 eb_38
noncomputable def d_L_2296 := gq_16 db67h_12 eb_1547
noncomputable def d_L_2299 := gq_17 db67h_12 eb_483
noncomputable def d_L_2300 := gq_18 db67h_12 eb_304
noncomputable def d_L_2301 := gq_19 db67h_12 eb_0
noncomputable def d_L_2302 := gq_20 db67h_12 eb_77
noncomputable def d_L_2304 := gq_21 db67h_12 eb_20
noncomputable def d_L_2305 := gq_22 db67h_12 eb_36
noncomputable def d_L_2306 := gq_23 db67h_12 eb_38
theorem db67h_13 : Pf_ code [(2307, [0x2a]), (2308, [0x15, 0x04]), (2310, [0x05]), (2311, [0x60]), (2312, [0x2e]), (2313, [0xb6, 0x00, 0xfa]), (2316, [0x57]), (2317, [0xa7, 0x00, 0x59]), (2320, [0x2b]), (2321, [0x2a]), (2322, [0x15, 0x04]), (2324, [0x04]), (2325, [0x60]), (2326, [0x2e]), (2327, [0x2a]), (2328, [0x15, 0x04]), (2330, [0x05]), (2331, [0x60]), (2332, [0x2e]), (2333, [0x2a]), (2334, [0x15, 0x04]), (2336, [0x06]), (2337, [0x60]), (2338, [0x2e])] := pf_ok code _ 2307 (by decide +kernel)
noncomputable def d_L_2307 := gq_0 db67h_13 eb_0
noncomputable def d_L_2308 := gq_1 db67h_13 eb_77
noncomputable def d_L_2310 := gq_2 db67h_13 eb_11
noncomputable def d_L_2311 := gq_3 db67h_13 eb_36
noncomputable def d_L_2312 := gq_4 db67h_13 eb_38
noncomputable def d_L_2313 := gq_5 db67h_13 eb_1548
noncomputable def d_L_2316 := gq_6 db67h_13 eb_483
noncomputable def d_L_2317 := gq_7 db67h_13 eb_1549
noncomputable def d_L_2320 := gq_8 db67h_13 eb_24
noncomputable def d_L_2321 := gq_9 db67h_13 eb_0
noncomputable def d_L_2322 := gq_10 db67h_13 eb_77
noncomputable def d_L_2324 := gq_11 db67h_13 eb_20
noncomputable def d_L_2325 := gq_12 db67h_13 eb_36
noncomputable def d_L_2326 := gq_13 db67h_13 eb_38
noncomputable def d_L_2327 := gq_14 db67h_13 eb_0
noncomputable def d_L_2328 := gq_15 db67h_13 eb_77
noncomputable def d_L_2330 := gq_16 db67h_13 eb_11
noncomputable def d_L_2331 := gq_17 db67h_13 eb_36
noncomputable def d_L_2332 := gq_18 db67h_13 eb_38
noncomputable def d_L_2333 := gq_19 db67h_13 eb_0
noncomputable def d_L_2334 := gq_20 db67h_13 eb_77
noncomputable def d_L_2336 := gq_21 db67h_13 eb_55
noncomputable def d_L_2337 := gq_22 db67h_13 eb_36
noncomputable def d_L_2338 := gq_23 db67h_13 eb_38
theorem db67h_14 : Pf_ code [(2339, [0x2a]), (2340, [0x15, 0x04]), (2342, [0x07]), (2343, [0x60]), (2344, [0x2e]), (2345, [0xb6, 0x00, 0xfb]), (2348, [0x57]), (2349, [0x2c]), (2350, [0x2a]), (2351, [0x15, 0x04]), (2353, [0x04]), (2354, [0x60]), (2355, [0x2e]), (2356, [0x2a]), (2357, [0x15, 0x04]), (2359, [0x05]), (2360, [0x60]), (2361, [0x2e]), (2362, [0x2a]), (2363, [0x15, 0x04]), (2365, [0x06]), (2366, [0x60]), (2367, [0x2e]), (2368, [0x2a])] := pf_ok code _ 2339 (by decide +kernel)
noncomputable def d_L_2339 := gq_0 db67h_14 eb_0
noncomputable def d_L_2340 := gq_1 db67h_14 eb_77
noncomputable def d_L_2342 := gq_2 db67h_14 eb_294
noncomputable def d_L_2343 := gq_3 db67h_14 eb_36
noncomputable def d_L_2344 := gq_4 db67h_14 eb_38
noncomputable def d_L_2345 := gq_5 db67h_14 eb_1550
noncomputable def d_L_2348 := gq_6 db67h_14 eb_483
noncomputable def d_L_2349 := gq_7 db67h_14 eb_304
noncomputable def d_L_2350 := gq_8 db67h_14 eb_0
noncomputable def d_L_2351 := gq_9 db67h_14 eb_77
noncomputable def d_L_2353 := gq_10 db67h_14 eb_20
noncomputable def d_L_2354 := gq_11 db67h_14 eb_36
noncomputable def d_L_2355 := gq_12 db67h_14 eb_38
noncomputable def d_L_2356 := gq_13 db67h_14 eb_0
noncomputable def d_L_2357 := gq_14 db67h_14 eb_77
noncomputable def d_L_2359 := gq_15 db67h_14 eb_11
noncomputable def d_L_2360 := gq_16 db67h_14 eb_36
noncomputable def d_L_2361 := gq_17 db67h_14 eb_38
noncomputable def d_L_2362 := gq_18 db67h_14 eb_0
noncomputable def d_L_2363 := gq_19 db67h_14 eb_77
noncomputable def d_L_2365 := gq_20 db67h_14 eb_55
noncomputable def d_L_2366 := gq_21 db67h_14 eb_36
noncomputable def d_L_2367 := gq_22 db67h_14 eb_38
noncomputable def d_L_2368 := gq_23 db67h_14 eb_0
theorem db67h_15 : Pf_ code [(2369, [0x15, 0x04]), (2371, [0x07]), (2372, [0x60]), (2373, [0x2e]), (2374, [0xb6, 0x00, 0xff]), (2377, [0x57]), (2378, [0xa7, 0x00, 0x1c]), (2381, [0x2b]), (2382, [0x2a]), (2383, [0x15, 0x04]), (2385, [0x04]), (2386, [0x60]), (2387, [0x2e]), (2388, [0xb6, 0x01, 0x00]), (2391, [0x57]), (2392, [0x2c]), (2393, [0x2a]), (2394, [0x15, 0x04]), (2396, [0x04]), (2397, [0x60]), (2398, [0x2e]), (2399, [0xb6, 0x01, 0x03]), (2402, [0x57]), (2403, [0xa7, 0x00, 0x03])] := pf_ok code _ 2369 (by decide +kernel)
noncomputable def d_L_2369 := gq_0 db67h_15 eb_77
noncomputable def d_L_2371 := gq_1 db67h_15 eb_294
noncomputable def d_L_2372 := gq_2 db67h_15 eb_36
noncomputable def d_L_2373 := gq_3 db67h_15 eb_38
noncomputable def d_L_2374 := gq_4 db67h_15 eb_1551
noncomputable def d_L_2377 := gq_5 db67h_15 eb_483
noncomputable def d_L_2378 := gq_6 db67h_15 eb_1552
noncomputable def d_L_2381 := gq_7 db67h_15 eb_24
noncomputable def d_L_2382 := gq_8 db67h_15 eb_0
noncomputable def d_L_2383 := gq_9 db67h_15 eb_77
noncomputable def d_L_2385 := gq_10 db67h_15 eb_20
noncomputable def d_L_2386 := gq_11 db67h_15 eb_36
noncomputable def d_L_2387 := gq_12 db67h_15 eb_38
noncomputable def d_L_2388 := gq_13 db67h_15 eb_1553
noncomputable def d_L_2391 := gq_14 db67h_15 eb_483
noncomputable def d_L_2392 := gq_15 db67h_15 eb_304
noncomputable def d_L_2393 := gq_16 db67h_15 eb_0
noncomputable def d_L_2394 := gq_17 db67h_15 eb_77
noncomputable def d_L_2396 := gq_18 db67h_15 eb_20
noncomputable def d_L_2397 := gq_19 db67h_15 eb_36
noncomputable def d_L_2398 := gq_20 db67h_15 eb_38
noncomputable def d_L_2399 := gq_21 db67h_15 eb_1554
noncomputable def d_L_2402 := gq_22 db67h_15 eb_483
noncomputable def d_L_2403 := gq_23 db67h_15 eb_1555
theorem db67h_16 : Pf_ code [(2406, [0x84, 0x04, 0x06]), (2409, [0xa7, 0xf6, 0xae]), (2412, [0x04]), (2413, [0xac])] := pf_ok code _ 2406 (by decide +kernel)
noncomputable def d_L_2406 := gq_0 db67h_16 eb_1556
noncomputable def d_L_2409 := gq_1 db67h_16 eb_1557
noncomputable def d_L_2412 := gq_2 db67h_16 eb_20
noncomputable def d_L_2413 := gq_3 db67h_16 eb_16
end
section
/-! the fresh heap keeps the account -/
theorem tb_0 : tbl.all (fun q => rsub (0, 0) q.2.1 && q.2.2.all (fun p => rsub (0, 0) p.2)) = true := by decide +kernel
theorem tf_0 (a k : Nat) : rin (0 : Int32).toInt (tf a k) := by
  have z : (0 : Int32).toInt = 0 := rfl
  have z0 : rin (0 : Int32).toInt (0, 0) := by rw [z]; exact ⟨Int.le_refl _, Int.le_refl _⟩
  unfold tf
  cases e : lk (cn a) tbl with
  | none => exact rtop_in _
  | some q =>
    obtain ⟨d, l⟩ := q
    have t := List.all_eq_true.mp tb_0 _ (lk_mem e)
    rw [Bool.and_eq_true] at t
    show rin _ ((lk k l).getD d)
    cases f : lk k l with
    | none => exact rsub_in t.1 z0
    | some r => exact rsub_in (List.all_eq_true.mp t.2 _ (lk_mem f)) z0
noncomputable def gz3 (a : Nat) : Bool := Nat.beq a 228 || Nat.beq a 229 || Nat.beq a 232
noncomputable def Gd (h : Hp_) : Prop := (∀ a k, rin (h_i h a k).toInt (tf a k)) ∧ (∀ k, h_r h 15 k = none) ∧ ∀ a, gz3 a = true → ∀ k, h_i h a k = 0
theorem Gd.nw {h : Hp_} {a t n : Nat} (g : Gd h) : Gd (h_nw h a t n) := by
  refine ⟨fun b k => ?_, fun k => ?_, fun b hb k => ?_⟩
  · rw [y_i]
    split
    · exact tf_0 _ _
    · exact g.1 b k
  · rw [y_r]
    split
    · rfl
    · exact g.2.1 k
  · rw [y_i]
    split
    · rfl
    · exact g.2.2 b hb k
theorem Gd.rm {h : Hp_} {a k : Nat} {x : Option Nat} (g : Gd h) (n : Nat.beq a 15 = false) : Gd (h_rm h a k x) := by
  refine ⟨g.1, fun j => ?_, g.2.2⟩
  rw [h_r_rm, if_neg (fun z => by rw [← z.1, Nat.beq_refl] at n; cases n)]
  exact g.2.1 j
theorem Gd.im {h : Hp_} {a k : Nat} {x : Int32} (g : Gd h) (c : rsub (x.toInt, x.toInt) (tf a k) = true) (n : gz3 a = false) : Gd (h_im h a k x) := by
  refine ⟨fun b j => ?_, g.2.1, fun b hb j => ?_⟩
  · rw [h_i_im]
    split
    · rename_i e
      rw [e.1, e.2]; exact rsub_in c ⟨Int.le_refl _, Int.le_refl _⟩
    · exact g.1 b j
  · rw [h_i_im, if_neg (fun z => by rw [z.1, n] at hb; cases hb)]
    exact g.2.2 b hb j
theorem Gd.iw {h : Hp_} {a : Nat} {f : Nat → Int32} (g : Gd h) (c : tfa a = some rtop) (n : gz3 a = false) : Gd (h_iw h a f) := by
  refine ⟨fun b j => ?_, g.2.1, fun b hb j => ?_⟩
  · rw [h_i_iw]
    split
    · rename_i e
      rw [e, tfa_tf c]; exact rtop_in _
    · exact g.1 b j
  · rw [h_i_iw, if_neg (fun z => by rw [z, n] at hb; cases hb)]
    exact g.2.2 b hb j
theorem gd_E : Gd hE := ⟨fun _ _ => tf_0 _ _, fun _ => rfl, fun _ _ _ => rfl⟩
theorem gd_CH_10 {h : Hp_} (g : Gd h) : Gd (CH_10 h) := by
  unfold CH_10
  refine Gd.iw ?_ (by decide +kernel) rfl
  refine Gd.rm ?_ rfl
  refine Gd.nw ?_
  exact g
theorem gd_CH_11 {h : Hp_} (g : Gd h) : Gd (CH_11 h) := by
  unfold CH_11
  refine Gd.rm ?_ rfl
  refine Gd.nw ?_
  refine Gd.rm ?_ rfl
  refine Gd.nw ?_
  refine Gd.rm ?_ rfl
  refine Gd.rm ?_ rfl
  refine Gd.nw ?_
  exact g
theorem gd_CH_12 {h : Hp_} (g : Gd h) : Gd (CH_12 h) := by
  unfold CH_12
  refine Gd.rm ?_ rfl
  refine Gd.nw ?_
  refine Gd.rm ?_ rfl
  refine Gd.nw ?_
  refine Gd.rm ?_ rfl
  refine Gd.nw ?_
  exact g
theorem gd_CH_13 {h : Hp_} (g : Gd h) : Gd (CH_13 h) := by
  unfold CH_13
  refine Gd.rm ?_ rfl
  refine Gd.nw ?_
  refine Gd.rm ?_ rfl
  refine Gd.nw ?_
  refine Gd.rm ?_ rfl
  refine Gd.nw ?_
  refine Gd.rm ?_ rfl
  refine Gd.nw ?_
  refine Gd.rm ?_ rfl
  refine Gd.nw ?_
  exact g
theorem gd_CH_14 {h : Hp_} (g : Gd h) : Gd (CH_14 h) := by
  unfold CH_14
  refine Gd.rm ?_ rfl
  refine Gd.nw ?_
  refine Gd.rm ?_ rfl
  refine Gd.nw ?_
  refine Gd.rm ?_ rfl
  refine Gd.nw ?_
  refine Gd.rm ?_ rfl
  refine Gd.nw ?_
  refine Gd.rm ?_ rfl
  refine Gd.nw ?_
  exact g
theorem gd_CH_16 {h : Hp_} (g : Gd h) : Gd (CH_16 h) := by
  unfold CH_16
  refine Gd.rm ?_ rfl
  refine Gd.nw ?_
  refine Gd.rm ?_ rfl
  refine Gd.nw ?_
  refine Gd.rm ?_ rfl
  refine Gd.nw ?_
  refine Gd.rm ?_ rfl
  refine Gd.nw ?_
  refine Gd.rm ?_ rfl
  refine Gd.nw ?_
  refine Gd.rm ?_ rfl
  refine Gd.nw ?_
  refine Gd.rm ?_ rfl
  refine Gd.nw ?_
  refine Gd.rm ?_ rfl
  refine Gd.nw ?_
  refine Gd.rm ?_ rfl
  refine Gd.nw ?_
  refine Gd.rm ?_ rfl
  refine Gd.nw ?_
  exact g
theorem gd_CH_17 {h : Hp_} (g : Gd h) : Gd (CH_17 h) := by
  unfold CH_17
  refine Gd.rm ?_ rfl
  refine Gd.nw ?_
  refine Gd.rm ?_ rfl
  refine Gd.nw ?_
  refine Gd.rm ?_ rfl
  refine Gd.nw ?_
  refine Gd.rm ?_ rfl
  refine Gd.nw ?_
  refine Gd.rm ?_ rfl
  refine Gd.nw ?_
  refine Gd.rm ?_ rfl
  refine Gd.nw ?_
  refine Gd.rm ?_ rfl
  refine Gd.nw ?_
  refine Gd.rm ?_ rfl
  refine Gd.nw ?_
  refine Gd.rm ?_ rfl
  refine Gd.nw ?_
  refine Gd.rm ?_ rfl
  refine Gd.nw ?_
  refine Gd.rm ?_ rfl
  refine Gd.nw ?_
  refine Gd.rm ?_ rfl
  refine Gd.nw ?_
  refine Gd.rm ?_ rfl
  refine Gd.nw ?_
  refine Gd.rm ?_ rfl
  refine Gd.nw ?_
  exact g
theorem gd_CH_18 {h : Hp_} (g : Gd h) : Gd (CH_18 h) := by
  unfold CH_18
  refine Gd.iw ?_ (by decide +kernel) rfl
  refine Gd.iw ?_ (by decide +kernel) rfl
  refine Gd.rm ?_ rfl
  refine Gd.nw ?_
  refine Gd.rm ?_ rfl
  refine Gd.nw ?_
  refine Gd.rm ?_ rfl
  refine Gd.nw ?_
  refine Gd.rm ?_ rfl
  refine Gd.nw ?_
  refine Gd.rm ?_ rfl
  refine Gd.nw ?_
  refine Gd.rm ?_ rfl
  refine Gd.nw ?_
  refine Gd.rm ?_ rfl
  refine Gd.nw ?_
  refine Gd.rm ?_ rfl
  refine Gd.nw ?_
  refine Gd.rm ?_ rfl
  refine Gd.nw ?_
  refine Gd.rm ?_ rfl
  refine Gd.nw ?_
  refine Gd.rm ?_ rfl
  refine Gd.nw ?_
  refine Gd.rm ?_ rfl
  refine Gd.nw ?_
  refine Gd.rm ?_ rfl
  refine Gd.nw ?_
  refine Gd.rm ?_ rfl
  refine Gd.nw ?_
  exact g
theorem gd_CH_19 {h : Hp_} (g : Gd h) : Gd (CH_19 h) := by
  unfold CH_19
  refine Gd.rm ?_ rfl
  refine Gd.nw ?_
  refine Gd.rm ?_ rfl
  refine Gd.nw ?_
  refine Gd.rm ?_ rfl
  refine Gd.nw ?_
  refine Gd.rm ?_ rfl
  refine Gd.nw ?_
  refine Gd.rm ?_ rfl
  refine Gd.nw ?_
  refine Gd.im ?_ (by decide +kernel) rfl
  refine Gd.im ?_ (by decide +kernel) rfl
  refine Gd.rm ?_ rfl
  refine Gd.nw ?_
  refine Gd.rm ?_ rfl
  refine Gd.nw ?_
  exact g
theorem gd_CH_20 {h : Hp_} (g : Gd h) : Gd (CH_20 h) := by
  unfold CH_20
  refine Gd.rm ?_ rfl
  refine Gd.nw ?_
  refine Gd.rm ?_ rfl
  refine Gd.nw ?_
  refine Gd.rm ?_ rfl
  refine Gd.nw ?_
  refine Gd.rm ?_ rfl
  refine Gd.nw ?_
  refine Gd.rm ?_ rfl
  refine Gd.nw ?_
  refine Gd.rm ?_ rfl
  refine Gd.nw ?_
  refine Gd.rm ?_ rfl
  refine Gd.nw ?_
  refine Gd.rm ?_ rfl
  refine Gd.nw ?_
  refine Gd.rm ?_ rfl
  refine Gd.nw ?_
  refine Gd.rm ?_ rfl
  refine Gd.nw ?_
  refine Gd.rm ?_ rfl
  refine Gd.nw ?_
  refine Gd.rm ?_ rfl
  refine Gd.nw ?_
  exact g
theorem gd_CH_21 {h : Hp_} (g : Gd h) : Gd (CH_21 h) := by
  unfold CH_21
  refine Gd.iw ?_ (by decide +kernel) rfl
  refine Gd.im ?_ (by decide +kernel) rfl
  refine Gd.rm ?_ rfl
  refine Gd.nw ?_
  refine Gd.rm ?_ rfl
  refine Gd.nw ?_
  refine Gd.rm ?_ rfl
  refine Gd.nw ?_
  refine Gd.rm ?_ rfl
  refine Gd.nw ?_
  refine Gd.rm ?_ rfl
  refine Gd.nw ?_
  refine Gd.rm ?_ rfl
  refine Gd.nw ?_
  refine Gd.rm ?_ rfl
  refine Gd.nw ?_
  refine Gd.rm ?_ rfl
  refine Gd.nw ?_
  refine Gd.rm ?_ rfl
  refine Gd.nw ?_
  refine Gd.rm ?_ rfl
  refine Gd.nw ?_
  refine Gd.rm ?_ rfl
  refine Gd.nw ?_
  refine Gd.rm ?_ rfl
  refine Gd.nw ?_
  exact g
theorem gd_CC_0 {h : Hp_} (g : Gd h) : Gd (CC_0 h) := by
  unfold CC_0
  refine Gd.rm ?_ rfl
  refine Gd.nw ?_
  refine Gd.rm ?_ rfl
  refine Gd.nw ?_
  refine Gd.rm ?_ rfl
  refine Gd.nw ?_
  refine Gd.rm ?_ rfl
  refine Gd.nw ?_
  refine Gd.rm ?_ rfl
  refine Gd.nw ?_
  refine Gd.rm ?_ rfl
  refine Gd.nw ?_
  refine Gd.rm ?_ rfl
  refine Gd.nw ?_
  refine Gd.rm ?_ rfl
  refine Gd.nw ?_
  refine Gd.rm ?_ rfl
  refine Gd.nw ?_
  refine Gd.rm ?_ rfl
  refine Gd.nw ?_
  refine Gd.rm ?_ rfl
  refine Gd.nw ?_
  refine Gd.rm ?_ rfl
  refine Gd.nw ?_
  refine Gd.rm ?_ rfl
  refine Gd.nw ?_
  refine Gd.rm ?_ rfl
  refine Gd.nw ?_
  refine Gd.rm ?_ rfl
  refine Gd.nw ?_
  exact g
theorem gd_CC_1 {h : Hp_} (g : Gd h) : Gd (CC_1 h) := by
  unfold CC_1
  refine Gd.rm ?_ rfl
  refine Gd.nw ?_
  refine Gd.rm ?_ rfl
  refine Gd.nw ?_
  refine Gd.rm ?_ rfl
  refine Gd.nw ?_
  refine Gd.rm ?_ rfl
  refine Gd.nw ?_
  refine Gd.rm ?_ rfl
  refine Gd.nw ?_
  refine Gd.rm ?_ rfl
  refine Gd.nw ?_
  refine Gd.rm ?_ rfl
  refine Gd.nw ?_
  refine Gd.rm ?_ rfl
  refine Gd.nw ?_
  refine Gd.rm ?_ rfl
  refine Gd.nw ?_
  refine Gd.rm ?_ rfl
  refine Gd.nw ?_
  refine Gd.rm ?_ rfl
  refine Gd.nw ?_
  refine Gd.rm ?_ rfl
  refine Gd.nw ?_
  refine Gd.rm ?_ rfl
  refine Gd.nw ?_
  refine Gd.rm ?_ rfl
  refine Gd.nw ?_
  refine Gd.rm ?_ rfl
  refine Gd.nw ?_
  exact g
theorem gd_CC_2 {h : Hp_} (g : Gd h) : Gd (CC_2 h) := by
  unfold CC_2
  refine Gd.rm ?_ rfl
  refine Gd.nw ?_
  refine Gd.rm ?_ rfl
  refine Gd.nw ?_
  refine Gd.rm ?_ rfl
  refine Gd.nw ?_
  refine Gd.rm ?_ rfl
  refine Gd.nw ?_
  refine Gd.rm ?_ rfl
  refine Gd.nw ?_
  refine Gd.rm ?_ rfl
  refine Gd.nw ?_
  refine Gd.rm ?_ rfl
  refine Gd.nw ?_
  refine Gd.rm ?_ rfl
  refine Gd.nw ?_
  refine Gd.rm ?_ rfl
  refine Gd.nw ?_
  refine Gd.rm ?_ rfl
  refine Gd.nw ?_
  refine Gd.rm ?_ rfl
  refine Gd.nw ?_
  refine Gd.rm ?_ rfl
  refine Gd.nw ?_
  refine Gd.rm ?_ rfl
  refine Gd.nw ?_
  refine Gd.rm ?_ rfl
  refine Gd.nw ?_
  refine Gd.rm ?_ rfl
  refine Gd.nw ?_
  exact g
theorem gd_CC_3 {h : Hp_} (g : Gd h) : Gd (CC_3 h) := by
  unfold CC_3
  refine Gd.rm ?_ rfl
  refine Gd.nw ?_
  refine Gd.rm ?_ rfl
  refine Gd.nw ?_
  refine Gd.rm ?_ rfl
  refine Gd.nw ?_
  refine Gd.rm ?_ rfl
  refine Gd.nw ?_
  refine Gd.rm ?_ rfl
  refine Gd.nw ?_
  refine Gd.rm ?_ rfl
  refine Gd.nw ?_
  refine Gd.rm ?_ rfl
  refine Gd.nw ?_
  refine Gd.rm ?_ rfl
  refine Gd.nw ?_
  refine Gd.rm ?_ rfl
  refine Gd.nw ?_
  refine Gd.rm ?_ rfl
  refine Gd.nw ?_
  refine Gd.rm ?_ rfl
  refine Gd.nw ?_
  refine Gd.rm ?_ rfl
  refine Gd.nw ?_
  refine Gd.rm ?_ rfl
  refine Gd.nw ?_
  refine Gd.rm ?_ rfl
  refine Gd.nw ?_
  refine Gd.rm ?_ rfl
  refine Gd.nw ?_
  exact g
theorem gd_CC_4 {h : Hp_} (g : Gd h) : Gd (CC_4 h) := by
  unfold CC_4
  refine Gd.rm ?_ rfl
  refine Gd.nw ?_
  refine Gd.rm ?_ rfl
  refine Gd.nw ?_
  refine Gd.rm ?_ rfl
  refine Gd.nw ?_
  refine Gd.rm ?_ rfl
  refine Gd.nw ?_
  refine Gd.rm ?_ rfl
  refine Gd.nw ?_
  refine Gd.rm ?_ rfl
  refine Gd.nw ?_
  refine Gd.rm ?_ rfl
  refine Gd.nw ?_
  refine Gd.rm ?_ rfl
  refine Gd.nw ?_
  refine Gd.rm ?_ rfl
  refine Gd.nw ?_
  refine Gd.rm ?_ rfl
  refine Gd.nw ?_
  refine Gd.rm ?_ rfl
  refine Gd.nw ?_
  refine Gd.rm ?_ rfl
  refine Gd.nw ?_
  refine Gd.rm ?_ rfl
  refine Gd.nw ?_
  refine Gd.rm ?_ rfl
  refine Gd.nw ?_
  refine Gd.rm ?_ rfl
  refine Gd.nw ?_
  exact g
theorem gd_CC_5 {h : Hp_} (g : Gd h) : Gd (CC_5 h) := by
  unfold CC_5
  refine Gd.rm ?_ rfl
  refine Gd.nw ?_
  refine Gd.rm ?_ rfl
  refine Gd.nw ?_
  refine Gd.rm ?_ rfl
  refine Gd.nw ?_
  refine Gd.rm ?_ rfl
  refine Gd.nw ?_
  refine Gd.rm ?_ rfl
  refine Gd.nw ?_
  refine Gd.rm ?_ rfl
  refine Gd.nw ?_
  refine Gd.rm ?_ rfl
  refine Gd.nw ?_
  refine Gd.rm ?_ rfl
  refine Gd.nw ?_
  refine Gd.rm ?_ rfl
  refine Gd.nw ?_
  refine Gd.im ?_ (by decide +kernel) rfl
  refine Gd.rm ?_ rfl
  refine Gd.nw ?_
  refine Gd.rm ?_ rfl
  refine Gd.nw ?_
  refine Gd.rm ?_ rfl
  refine Gd.nw ?_
  refine Gd.rm ?_ rfl
  refine Gd.nw ?_
  refine Gd.rm ?_ rfl
  refine Gd.nw ?_
  exact g
theorem gd_CC_6 {h : Hp_} (g : Gd h) : Gd (CC_6 h) := by
  unfold CC_6
  refine Gd.im ?_ (by decide +kernel) rfl
  refine Gd.rm ?_ rfl
  refine Gd.nw ?_
  refine Gd.rm ?_ rfl
  refine Gd.nw ?_
  refine Gd.rm ?_ rfl
  refine Gd.nw ?_
  refine Gd.rm ?_ rfl
  refine Gd.nw ?_
  refine Gd.rm ?_ rfl
  refine Gd.nw ?_
  refine Gd.rm ?_ rfl
  refine Gd.nw ?_
  refine Gd.rm ?_ rfl
  refine Gd.nw ?_
  refine Gd.rm ?_ rfl
  refine Gd.nw ?_
  refine Gd.rm ?_ rfl
  refine Gd.nw ?_
  refine Gd.rm ?_ rfl
  refine Gd.nw ?_
  refine Gd.rm ?_ rfl
  refine Gd.nw ?_
  exact g
theorem gd_CH_1 {h : Hp_} (g : Gd h) : Gd (CH_1 h) := by
  unfold CH_1
  refine Gd.im ?_ (by decide +kernel) rfl
  refine Gd.im ?_ (by decide +kernel) rfl
  refine Gd.im ?_ (by decide +kernel) rfl
  refine Gd.im ?_ (by decide +kernel) rfl
  refine Gd.im ?_ (by decide +kernel) rfl
  refine Gd.im ?_ (by decide +kernel) rfl
  refine Gd.im ?_ (by decide +kernel) rfl
  refine Gd.im ?_ (by decide +kernel) rfl
  exact gd_CC_6 (gd_CC_5 (gd_CC_4 (gd_CC_3 (gd_CC_2 (gd_CC_1 (gd_CC_0 g))))))
theorem gd_G0 : Gd G0 := Gd.nw gd_E
theorem gd_G1 : Gd G1 := Gd.nw gd_G0
theorem gd_G2 : Gd G2 := gd_CH_10 gd_G1
theorem gd_G3 : Gd G3 := Gd.rm gd_G2 rfl
theorem gd_G4 : Gd G4 := Gd.nw gd_G3
theorem gd_G5 : Gd G5 := gd_CH_11 gd_G4
theorem gd_G6 : Gd G6 := Gd.rm gd_G5 rfl
theorem gd_G7 : Gd G7 := Gd.nw gd_G6
theorem gd_G8 : Gd G8 := gd_CH_12 gd_G7
theorem gd_G9 : Gd G9 := Gd.rm gd_G8 rfl
theorem gd_G10 : Gd G10 := Gd.nw gd_G9
theorem gd_G11 : Gd G11 := gd_CH_13 gd_G10
theorem gd_G12 : Gd G12 := Gd.rm gd_G11 rfl
theorem gd_G13 : Gd G13 := Gd.nw gd_G12
theorem gd_G14 : Gd G14 := gd_CH_14 gd_G13
theorem gd_G15 : Gd G15 := Gd.rm gd_G14 rfl
theorem gd_G16 : Gd G16 := Gd.nw gd_G15
theorem gd_G17 : Gd G17 := Gd.rm gd_G16 rfl
theorem gd_G18 : Gd G18 := Gd.nw gd_G17
theorem gd_G19 : Gd G19 := gd_CH_16 gd_G18
theorem gd_G20 : Gd G20 := Gd.rm gd_G19 rfl
theorem gd_G21 : Gd G21 := Gd.nw gd_G20
theorem gd_G22 : Gd G22 := gd_CH_17 gd_G21
theorem gd_G23 : Gd G23 := Gd.rm gd_G22 rfl
theorem gd_G24 : Gd G24 := Gd.nw gd_G23
theorem gd_G25 : Gd G25 := gd_CH_18 gd_G24
theorem gd_G26 : Gd G26 := Gd.rm gd_G25 rfl
theorem gd_G27 : Gd G27 := Gd.nw gd_G26
theorem gd_G28 : Gd G28 := gd_CH_19 gd_G27
theorem gd_G29 : Gd G29 := Gd.rm gd_G28 rfl
theorem gd_G30 : Gd G30 := Gd.nw gd_G29
theorem gd_G31 : Gd G31 := gd_CH_20 gd_G30
theorem gd_G32 : Gd G32 := Gd.rm gd_G31 rfl
theorem gd_G33 : Gd G33 := Gd.nw gd_G32
theorem gd_G34 : Gd G34 := gd_CH_21 gd_G33
theorem gd_G35 : Gd G35 := Gd.rm gd_G34 rfl
theorem gd_G36 : Gd G36 := Gd.nw gd_G35
theorem gd_G37 : Gd G37 := Gd.rm gd_G36 rfl
theorem gd_F : Gd HF := Gd.nw (gd_CH_1 (Gd.nw (a := 1) (t := 22) (n := 131) gd_G37))
theorem hf_0_0 : h_i HF 0 0 = 0 := by decide +kernel
theorem hf_1_7 : h_i HF 1 7 = 0 := by decide +kernel
theorem hf_11_4 : h_r HF 11 4 = some 1000 := by decide +kernel
theorem hf_0_15 : h_r HF 0 15 = some 400 := by decide +kernel
theorem hf_400 : h_sh HF 400 = some (3, 0) := by decide +kernel
theorem hf_2 : h_sh HF 2 = some (3, 1) := by decide +kernel
theorem hf_free : (List.range 599).all (fun i => decide (h_sh HF (401 + i) = none)) = true := by decide +kernel
theorem hf_no {a : Nat} (h1 : 401 ≤ a) (h2 : a < 1000) : h_sh HF a = none := by
  have t := of_decide_eq_true (List.all_eq_true.mp hf_free (a - 401) (List.mem_range.mpr (by omega)))
  rw [show 401 + (a - 401) = a by omega] at t
  exact t
theorem iv_F : Iv HF := by
  refine ⟨wHF, gd_F.1, fun k => Or.inl (gd_F.2.1 k), ⟨0, by decide, hf_11_4⟩, ⟨400, 0, hf_0_15, hf_400, by decide, by rw [hf_0_0]; decide⟩, fun k _ => ?_, fun j hj _ => hf_no (by omega) (by omega), fun c N _ _ => ⟨0, by decide, Or.inl rfl, fun a h1 h2 => hf_no (by omega) h2⟩, fun t ht => ⟨0, ?_⟩⟩
  · rw [gd_F.2.2 229 rfl]; exact ⟨by decide, by decide⟩
  · show 560 * t = 560 * t + (h_i HF 232 t).toNatClampNeg
    rw [gd_F.2.2 232 rfl]; simp
theorem j2_F : J2 HF := fun c hc hm => by
  rw [hf_1_7] at hm
  have z : (0 : Int32).toInt = 0 := rfl
  omega
/-- what the law's loop keeps: the account, the men's account, the law's row, the history's length -/
noncomputable def Li0 (N : Nat) (h : Hp_) : Prop := Iv h ∧ J2 h ∧ h_sh h 2 = some (3, 1) ∧ ∃ c, h_r h 0 15 = some c ∧ h_sh h c = some (3, N)
theorem li0_F : Li0 0 HF := ⟨iv_F, j2_F, hf_2, 400, hf_0_15, hf_400⟩
theorem Li0.fr {N : Nat} {ws : List Nat} {h h' : Hp_} (L : Li0 N h) (I : Iv h') (f : Fr ws h h') (o : (jso ws && !inw ws 0 15) = true) : Li0 N h' := by
  rw [Bool.and_eq_true, Bool.not_eq_true'] at o
  obtain ⟨c, a, b⟩ := L.2.2.2
  exact ⟨I, J2_s (Js.fr f o.1) L.2.1, by rw [f.1]; exact L.2.2.1, c, by rw [(f.2 0 15 o.2).2.2]; exact a, by rw [f.1]; exact b⟩
theorem Li0.sn {N : Nat} {h h' : Hp_} (L : Li0 N h) (I : Iv h') (J : J2 h') (s : Sn h h') : Li0 N h' := by
  obtain ⟨c, a, b⟩ := L.2.2.2
  exact ⟨I, J, by rw [s.1]; exact L.2.2.1, c, by rw [(s.2 0 15 (by decide +kernel)).2.2]; exact a, by rw [s.1]; exact b⟩
theorem Li0.st {N : Nat} {h h' : Hp_} (L : Li0 N h) (I : Iv h') (J : J2 h') (s : Fr wsT h h') : Li0 N h' := by
  obtain ⟨c, a, b⟩ := L.2.2.2
  exact ⟨I, J, by rw [s.1]; exact L.2.2.1, c, by rw [(s.2 0 15 (by decide +kernel)).2.2]; exact a, by rw [s.1]; exact b⟩
theorem Li0.tick {N N' : Nat} {h h' : Hp_} {x r : Int32} (L : Li0 N h) (k : Iv h' ∧ Mf wsX h h' ∧ (∃ c', h_r h' 0 15 = some c' ∧ h_sh h' c' = some (3, N')) ∧ otk (h_i h 0 0) x r (h_i h' 0 0)) : Li0 N' h' := ⟨k.1, J2_s k.2.1.js L.2.1, by rw [k.2.1.2.2.1]; exact L.2.2.1, k.2.2.1⟩
theorem Li0.con {N : Nat} {h h' : Hp_} (L : Li0 N h) (x : Cx h h') : Li0 N h' := by
  obtain ⟨c, a, b⟩ := L.2.2.2
  exact ⟨x.1, J2_s x.2.1.js L.2.1, by rw [x.2.1.2.2.1]; exact L.2.2.1, c, by rw [x.2.2.1]; exact a, x.2.2.2 c N a b⟩
/-! the numbers that class and reference keep alike -/
noncomputable def Rlf (rl : List ((Nat × Nat) × Nat)) (h : Hp_) : Prop := ∀ q ∈ rl, h_i h q.1.1 q.1.2 = h_i h 1 q.2
theorem Rlf.fr {rl : List ((Nat × Nat) × Nat)} {ws : List Nat} {h h' : Hp_} (R : Rlf rl h) (f : Fr ws h h') (o : rl.all (fun q => !inw ws q.1.1 q.1.2 && !inw ws 1 q.2) = true) : Rlf rl h' := fun q hq => by
  have z := List.all_eq_true.mp o q hq
  rw [Bool.and_eq_true, Bool.not_eq_true', Bool.not_eq_true'] at z
  rw [(f.2 _ _ z.1).1, (f.2 _ _ z.2).1]
  exact R q hq
theorem Rlf.mf {rl : List ((Nat × Nat) × Nat)} {W : List Nat} {h h' : Hp_} (R : Rlf rl h) (f : Mf W h h') (o : rl.all (fun q => Nat.ble q.1.1 199 && !inw W q.1.1 q.1.2) = true) : Rlf rl h' := fun q hq => by
  have z := List.all_eq_true.mp o q hq
  rw [Bool.and_eq_true, Bool.not_eq_true', Nat.ble_eq] at z
  rw [(f.2.2.2 _ _ (Or.inl (by omega)) z.2).1, f.1 q.2]
  exact R q hq
end
section
/-! ===== BEGIN words of one list among another's, by their places ===== -/
/-! ===== END ===== -/

/-! ===== BEGIN exceptions that leave a method, and their catching by the caller (launches without stack traces) ===== -/
section VXA
/-! The laws vx_back, vx_callV, vx_callS, vx_callSW, vx_throw0, vx_throwS follow proofs of the library, with one case more: JvmDerived/Free/Laws.lean (Back.of_free), Shelf42/LK1.lean (callV, callS), Shelf/KitTraced.lean (throwNew0V, throwNewS). -/
/-- where a method has thrown q: the kind by its name, the cell, what was written, the world -/
noncomputable def vx_T (XC : String → State → State → Prop) (st : State) (q : Addr) (t : State) (mc ms : Nat) (free : Addr → Prop) : Prop :=
  ∃ (E : String) (ce : Cell) (L : List Loc), XC E st t ∧ t.heap[q]? = some ce ∧ ce.vm = .none ∧ st.vm.findClass E = some ce.cls ∧ st.WarmedH t.vm ∧ st.sameButNew ({ t with vm := st.vm } : State) L mc ms ∧ ∀ z ∈ L, free z.base
noncomputable def vx_Q (Qc : Array Value → State → Outcome → State → Prop) (XC : String → State → State → Prop) (mc ms : Nat) (free : Addr → Prop) : Array Value → State → Outcome → State → Prop := fun a st o t =>
  (Qc a st o t ∧ ∃ L, FrameEnd st o t L mc ms ∧ ∀ q ∈ L, free q.base) ∨ ∃ q, o = .threw q ∧ vx_T XC st q t mc ms free
/-- a callee that returns or throws -/
noncomputable def vx_Met (l : Launch) (y : MethodName) (ws : List Cond) (rm : Room) (Pc : Array Value → State → Prop) (Qc : Array Value → State → Outcome → State → Prop) (XC : String → State → State → Prop) (mc ms : Nat) (free : Addr → Prop) : Prop :=
  MetFree l y (headSpec ws rm) Pc (fun _ _ _ _ _ => True) (vx_Q Qc XC mc ms free)
noncomputable def vx_Post (XC : String → State → State → Prop) (mc ms : Nat) (free : Addr → Prop) : Pt → Array Value → Addr → Pt → Prop := fun A a q B =>
  ∃ (g : JFrame) (mk : MethodId) (t : State) (L : List Loc) (E : String) (ce : Cell), B.U.heap = t.heap ∧ B.U.vm = t.vm ∧ XC E (A.U.calling g mk a) t ∧ t.heap[q]? = some ce ∧ ce.vm = .none ∧ A.U.vm.findClass E = some ce.cls ∧ B.locs = A.locs ++ L ∧ (∀ z ∈ L, free z.base) ∧ B.cells = A.cells + mc ∧ B.slots = A.slots + ms
noncomputable def vx_Back (l : Launch) (R : Room) (p : Program) (e : Env) (below : List Frame) (s : State) (sargs : Array Value) (y : MethodName) (len W9 : Nat)
    (Pre : Pt → Array Value → Prop) (Post : Pt → Array Value → Option Value → Pt → Prop) (PostX : Pt → Array Value → Addr → Pt → Prop) : Prop :=
  ∀ (m : MethodId) (meth : Method) (c : Code) (A : Pt) (g : JFrame) (ig : Instr) (mk : MethodId) (a : Array Value),
    Stand p l e R s m sargs below meth c A.U A.locs A.cells A.slots → g.method = m → g.locals.size = c.maxLocals → decode c.code g.pc = .ok (ig, len) →
    2 * g.monitorRoom + (g.stack.map fun v => v.category).sum ≤ W9 → A.U.methodNamed? y = some mk → Pre A a →
    (∃ (v : Option Value) (B : Pt), Stand p l e R s m sargs below meth c B.U B.locs B.cells B.slots ∧ Post A a v B ∧
      Steps p.tables e below (doInvoke e (A.U.setTop g) [] mk a).1 (B.U.setTop { g with pc := g.pc + len, stack := v.toList ++ g.stack })) ∨
    (∃ (q : Addr) (B : Pt), Stand p l e R s m sargs below meth c B.U B.locs B.cells B.slots ∧ PostX A a q B ∧
      Steps p.tables e below (doInvoke e (A.U.setTop g) [] mk a).1 ((B.U.setTop g).pushFrame (.throwing q)))
section Payer
variable {l : Launch} {R : Room} {p : Program} {e : Env} {below : List Frame} {s : State} {sargs : Array Value} {y : MethodName} {len W9 : Nat}
theorem vx_back {ws : List Cond} {rm : Room} {Pc : Array Value → State → Prop} {Qc : Array Value → State → Outcome → State → Prop} {XC : String → State → State → Prop} {mc ms : Nat} {free : Addr → Prop} {bytes : ByteArray} {maxL : Nat} {ret : Option FieldType}
    (hM : vx_Met l y ws rm Pc Qc XC mc ms free) (hblind : FrameBlind Pc) (hrc : rm.cells = mc) (hrs : rm.slots = ms)
    (hframes : rm.frames + 1 ≤ R.frames) (hlocals : W9 + (maxL + 11) + rm.locals ≤ R.locals)
    (hws : ∀ w ∈ ws, ∀ a' U, s.WarmedH U.vm → w.before a' U = true) (hcode : Cond.code y bytes maxL ret ∈ ws) (hinit : ∀ a' U, s.WarmedH U.vm → (Cond.initialized y.cls).before a' U = true) :
    vx_Back l R p e below s sargs y len W9 (PreOf R mc ms Pc) (PostOf Qc mc ms free) (vx_Post XC mc ms free) := by
  intro m meth c A g ig mk a X hg hsize hdg hW hn hp
  have h1 : (headSpec ws rm).pre.before a A.U = true := atoms_intro fun w hw => hws w hw _ _ X.warmed
  have h2 : (Cond.code y bytes maxL ret).before a A.U = true := hws _ hcode _ _ X.warmed
  have h3 : (Cond.initialized y.cls).before a A.U = true := hinit _ _ X.warmed
  have h4 : A.cells + (headSpec ws rm).room.cells ≤ R.cells := by rw [show (headSpec ws rm).room.cells = mc from hrc]; exact hp.1
  have h5 : A.slots + (headSpec ws rm).room.slots ≤ R.slots := by rw [show (headSpec ws rm).room.slots = ms from hrs]; exact hp.2.1
  have hPc : Pc a (A.U.calling g mk a) := hblind _ _ _ _ hp.2.2
  obtain ⟨U, Ls, c0, s0⟩ := A
  dsimp only [Pt.U, Pt.locs, Pt.cells, Pt.slots] at h1 h2 h3 h4 h5 X hn hPc ⊢
  obtain ⟨methY, cY, hmY, hcY, -, hlY, -, -, -, -⟩ := Cond.code_spec hn h2
  obtain ⟨kY, hkY, -⟩ := className_of_methodNamed hn
  have hinitY : kY.init = .initialized := Cond.initialized_spec (findClass_of_methodNamed hn) hkY h3
  have h : At U g.method c below := by rw [hg]; exact X.here
  have hlocals9 : W9 + (maxL + 11) + (headSpec ws rm).room.locals ≤ R.locals := hlocals
  have happ : (headSpec ws rm).appliesLoose y e.platform (U.calling g mk a) = true :=
    Spec.appliesLoose_calling (g := g) h hdg hn hkY hinitY
      (X.room_calling (g := g) (R' := (headSpec ws rm).room) hsize hmY hcY hframes (by rw [hlY]; omega) h4 h5) h1
  obtain ⟨mid, hmid⟩ := h.above
  have hfr : (U.setTop g).frames = (.java g :: mid) ++ below := by rw [State.frames_setTop' g h.top, hmid]; rfl
  obtain ⟨o, s₂, hsteps, -, hend, hq⟩ := Steps.callFree hM p X.admits X.cas X.clock (acts := []) hfr happ hPc trivial
  have hq' : vx_Q Qc XC mc ms free a (U.calling g mk a) o s₂ := hq
  rw [State.frames_setTop' g h.top] at hend
  obtain ⟨g₀, hg0⟩ := Option.isSome_iff_exists.mp h.top
  obtain ⟨r, hr⟩ := State.topJava?_eq_some.mp hg0
  have hr' : (({ U with heap := s₂.heap, slotsUsed := s₂.slotsUsed } : State).setVm s₂.vm).frames = .java g₀ :: r := hr
  rcases hq' with ⟨hqc, L, hfe, hL⟩ | ⟨q, rfl, E, ce, L, hx, hce, hcv, hcl, hW₂, hsm, hL⟩
  · obtain ⟨⟨v, rfl⟩, hW₂, e2, q2, q3, q4, q5, q6⟩ := id hfe
    have e3 : s₂ = ({ (U.calling g mk a).setFrames s₂.frames with heap := s₂.heap, slotsUsed := s₂.slotsUsed } : State).setVm s₂.vm := by
      have : s₂ = ({ s₂ with vm := (U.calling g mk a).vm } : State).setVm s₂.vm := rfl
      rw [e2] at this
      exact this
    obtain ⟨c₂, i₂, len₂, hc₂, hd₂, hf₂⟩ := hend
    have hW' : U.WarmedH s₂.vm := hW₂
    have hcc : c₂ = c := by
      have h1 : s₂.code? g.method = U.code? g.method := by
        rw [State.code?_eq, State.code?_eq, hW'.alike.method?]
      exact Option.some.inj (hc₂.symm.trans (h1.trans h.code))
    subst hcc
    have hlen : len₂ = len := by rw [hdg] at hd₂; cases hd₂; rfl
    subst hlen
    have hs₂ : s₂ = (({ U with heap := s₂.heap, slotsUsed := s₂.slotsUsed } : State).setVm s₂.vm).setTop { g with pc := g.pc + len₂, stack := v.toList ++ g.stack } := by
      refine e3.trans ?_
      rw [hf₂, State.calling_eq h.top, State.setFrames_setFrames, State.setTop_of_frames _ hr', hr]
      rfl
    have hsame : U.sameButNew ({ U with heap := s₂.heap, slotsUsed := s₂.slotsUsed } : State) L mc ms := by
      refine ⟨?_, q2, q3, q4, q5, q6⟩
      obtain ⟨t, ht, -⟩ := State.frames_cons hr
      show ({ U with heap := s₂.heap, slotsUsed := s₂.slotsUsed } : State) = { U.setFrames U.frames with heap := s₂.heap, slotsUsed := s₂.slotsUsed }
      rw [State.setFrames_self ht]
    subst hg
    refine Or.inl ⟨v, ⟨(({ U with heap := s₂.heap, slotsUsed := s₂.slotsUsed } : State).setVm s₂.vm), Ls ++ L, c0 + mc, s0 + ms⟩,
      ⟨X.admits, X.cas, X.clock, X.frames, X.room, X.hears, X.method, X.code, (X.here.setHeapUsed s₂.heap s₂.slotsUsed).setVm hW'.alike, X.tail, State.WarmedH.trans X.warmed hW', X.limits, X.bytes, X.same.trans (hsame.setVm s.vm)⟩,
      ⟨g, mk, s₂, L, rfl, rfl, hqc, rfl, hL, rfl, rfl⟩, ?_⟩
    show Steps p.tables e below _ ((({ U with heap := s₂.heap, slotsUsed := s₂.slotsUsed } : State).setVm s₂.vm).setTop { g with pc := g.pc + len₂, stack := v.toList ++ g.stack })
    rw [← hs₂]
    exact hsteps
  · obtain ⟨e2, q2, q3, q4, q5, q6⟩ := id hsm
    have e3 : s₂ = ({ (U.calling g mk a).setFrames s₂.frames with heap := s₂.heap, slotsUsed := s₂.slotsUsed } : State).setVm s₂.vm := by
      have : s₂ = ({ s₂ with vm := (U.calling g mk a).vm } : State).setVm s₂.vm := rfl
      rw [e2] at this
      exact this
    have hf₂ : s₂.frames = .throwing q :: .java g :: U.frames.tail := hend
    have hW' : U.WarmedH s₂.vm := hW₂
    have hs₂ : s₂ = ((({ U with heap := s₂.heap, slotsUsed := s₂.slotsUsed } : State).setVm s₂.vm).setTop g).pushFrame (.throwing q) := by
      refine e3.trans ?_
      rw [hf₂, State.calling_eq h.top, State.setFrames_setFrames, State.pushFrame, State.frames_setTop _ hr', State.setTop_of_frames _ hr', State.setFrames_setFrames, hr]
      rfl
    have hsame : U.sameButNew ({ U with heap := s₂.heap, slotsUsed := s₂.slotsUsed } : State) L mc ms := by
      refine ⟨?_, q2, q3, q4, q5, q6⟩
      obtain ⟨t, ht, -⟩ := State.frames_cons hr
      show ({ U with heap := s₂.heap, slotsUsed := s₂.slotsUsed } : State) = { U.setFrames U.frames with heap := s₂.heap, slotsUsed := s₂.slotsUsed }
      rw [State.setFrames_self ht]
    subst hg
    refine Or.inr ⟨q, ⟨(({ U with heap := s₂.heap, slotsUsed := s₂.slotsUsed } : State).setVm s₂.vm), Ls ++ L, c0 + mc, s0 + ms⟩,
      ⟨X.admits, X.cas, X.clock, X.frames, X.room, X.hears, X.method, X.code, (X.here.setHeapUsed s₂.heap s₂.slotsUsed).setVm hW'.alike, X.tail, State.WarmedH.trans X.warmed hW', X.limits, X.bytes, X.same.trans (hsame.setVm s.vm)⟩,
      ⟨g, mk, s₂, L, E, ce, rfl, rfl, hx, hce, hcv, hcl, rfl, hL, rfl, rfl⟩, ?_⟩
    show Steps p.tables e below _ (((({ U with heap := s₂.heap, slotsUsed := s₂.slotsUsed } : State).setVm s₂.vm).setTop g).pushFrame (.throwing q))
    rw [← hs₂]
    exact hsteps
end Payer
section Calls
variable {p : Program} {l : Launch} {e : Env} {R : Room} {s : State} {m : MethodId} {args : Array Value} {below : List Frame} {meth : Method} {c : Code} {T : State} {locs : List Loc} {cells slots : Nat}
theorem vx_callV (X : Stand p l e R s m args below meth c T locs cells slots) (hexec : p.tables.exec = Jvm.exec) {own C : String} {index : Nat} {y : MethodName} {bytes : ByteArray} {maxL : Nat} {ret : Option FieldType}
    (hown : s.vm.findClass own = some m.cls) (hlink : (Cond.methodLink own index y).before args s = true) (hinst : (Cond.instanceMethod y).before args s = true) (hsel : (Cond.selects C y y).before args s = true)
    (hcode : (Cond.code y bytes maxL ret).before args s = true) (hy : y.cls ≠ "java/lang/invoke/MethodHandle" ∧ y.cls ≠ "java/lang/invoke/VarHandle")
    {W9 : Nat} {Pre : Pt → Array Value → Prop} {Post : Pt → Array Value → Option Value → Pt → Prop} {PostX : Pt → Array Value → Addr → Pt → Prop} (hK : vx_Back l R p e below s args y 3 W9 Pre Post PostX)
    {b : Addr} {cellB : Cell} (hcell : T.heap[b]? = some cellB) (hobj : cellB.vm.isStatics = false) (hcls : s.vm.findClass C = some cellB.cls)
    {g : JFrame} (hg : g.method = m) (hsize : g.locals.size = c.maxLocals) {argsL rest : List Value} (hlen : ∀ sig, parseMethodDescriptor y.desc = some sig → argsL.length = sig.parameters.length)
    (hstack : g.stack = argsL.reverse ++ .ref b :: rest) (hW : 2 * g.monitorRoom + (rest.map fun v => v.category).sum ≤ W9) (hdg : decode c.code g.pc = .ok (.invokevirtual index, 3))
    (hpre : ∀ vm₁, s.WarmedH vm₁ → Pre ⟨T.setVm vm₁, locs, cells, slots⟩ (Value.ref b :: argsL).toArray) :
    (∃ (v : Option Value) (vm₁ : Vm) (B : Pt), s.WarmedH vm₁ ∧ Stand p l e R s m args below meth c B.U B.locs B.cells B.slots ∧ Post ⟨T.setVm vm₁, locs, cells, slots⟩ (Value.ref b :: argsL).toArray v B ∧
      ∀ target, Steps p.tables e below (B.U.setTop { g with pc := g.pc + 3, stack := v.toList ++ rest }) target → Steps p.tables e below (T.setTop g) target) ∨
    (∃ (q : Addr) (vm₁ : Vm) (B : Pt), s.WarmedH vm₁ ∧ Stand p l e R s m args below meth c B.U B.locs B.cells B.slots ∧ PostX ⟨T.setVm vm₁, locs, cells, slots⟩ (Value.ref b :: argsL).toArray q B ∧
      Steps p.tables e below (T.setTop g) ((B.U.setTop { g with stack := rest }).pushFrame (.throwing q))) := by
  obtain ⟨mk, methM, hnamed, hmethM, hstM, habM⟩ := Cond.instanceMethod_spec hinst
  obtain ⟨methM', cM, hmethM', -, -, -, -, -, -, hsigM⟩ := Cond.code_spec hnamed hcode
  cases hmethM.symm.trans hmethM'
  obtain ⟨c2, r2, m2, q1, q2, q3, q4, kP, hkP, hkPi⟩ := Cond.selects_spec hsel
  cases hcls.symm.trans q1
  cases (State.methodFound?_of_named hnamed hy).symm.trans q2
  cases hnamed.symm.trans q3
  have hselP : selectMethod e.platform s.vm cellB.cls mk = .method mk := by rw [Launch.admits_selectMethod X.admits]; exact q4
  obtain ⟨vm₁, X₁, hstep₁⟩ := X.invokevirtual hexec hown hlink hnamed hmethM hstM hkP hkPi hy (a := b) (cell := cellB) hcell
    (fun z h => by rw [h] at hobj; cases hobj) hselP hmethM habM hkP hkPi (g := g) hg (argsL := argsL) (rest := rest) (hlen _ hsigM) hstack hdg
  rcases hK m meth c ⟨T.setVm vm₁, locs, cells, slots⟩ { g with stack := rest } (.invokevirtual index) mk (Value.ref b :: argsL).toArray X₁ hg hsize hdg hW (X₁.named hnamed) (hpre vm₁ X₁.warmed) with ⟨v, B, X', hpost, hsteps⟩ | ⟨q, B, X', hpost, hsteps⟩
  · exact Or.inl ⟨v, vm₁, B, X₁.warmed, X', hpost, fun target h => hstep₁ _ fun acts => by rw [doInvoke_state]; exact hsteps.trans h⟩
  · exact Or.inr ⟨q, vm₁, B, X₁.warmed, X', hpost, hstep₁ _ fun acts => by rw [doInvoke_state]; exact hsteps⟩
theorem vx_callS (X : Stand p l e R s m args below meth c T locs cells slots) (hexec : p.tables.exec = Jvm.exec) {own : String} {index : Nat} {y : MethodName} {bytes : ByteArray} {maxL : Nat} {ret : Option FieldType}
    (hown : s.vm.findClass own = some m.cls) (hlink : (Cond.methodLink own index y).before args s = true) (hstat : (Cond.static y).before args s = true) (hinit : (Cond.initialized y.cls).before args s = true)
    (hcode : (Cond.code y bytes maxL ret).before args s = true) (hy : y.cls ≠ "java/lang/invoke/MethodHandle" ∧ y.cls ≠ "java/lang/invoke/VarHandle")
    {W9 : Nat} {Pre : Pt → Array Value → Prop} {Post : Pt → Array Value → Option Value → Pt → Prop} {PostX : Pt → Array Value → Addr → Pt → Prop} (hK : vx_Back l R p e below s args y 3 W9 Pre Post PostX)
    {g : JFrame} (hg : g.method = m) (hsize : g.locals.size = c.maxLocals) {argsL rest : List Value} (hlen : ∀ sig, parseMethodDescriptor y.desc = some sig → argsL.length = sig.parameters.length)
    (hstack : g.stack = argsL.reverse ++ rest) (hW : 2 * g.monitorRoom + (rest.map fun v => v.category).sum ≤ W9) (hdg : decode c.code g.pc = .ok (.invokestatic index, 3))
    (hpre : ∀ vm₁, s.WarmedH vm₁ → Pre ⟨T.setVm vm₁, locs, cells, slots⟩ argsL.toArray) :
    (∃ (v : Option Value) (vm₁ : Vm) (B : Pt), s.WarmedH vm₁ ∧ Stand p l e R s m args below meth c B.U B.locs B.cells B.slots ∧ Post ⟨T.setVm vm₁, locs, cells, slots⟩ argsL.toArray v B ∧
      ∀ target, Steps p.tables e below (B.U.setTop { g with pc := g.pc + 3, stack := v.toList ++ rest }) target → Steps p.tables e below (T.setTop g) target) ∨
    (∃ (q : Addr) (vm₁ : Vm) (B : Pt), s.WarmedH vm₁ ∧ Stand p l e R s m args below meth c B.U B.locs B.cells B.slots ∧ PostX ⟨T.setVm vm₁, locs, cells, slots⟩ argsL.toArray q B ∧
      Steps p.tables e below (T.setTop g) ((B.U.setTop { g with stack := rest }).pushFrame (.throwing q))) := by
  obtain ⟨mk, hnamed⟩ := Cond.code_named hcode
  obtain ⟨methM, cM, hmethM, -, -, -, -, -, -, hsigM⟩ := Cond.code_spec hnamed hcode
  have hstatic : methM.isStatic = true := Cond.static_spec hnamed hmethM hstat
  obtain ⟨kP, hkP, -⟩ := className_of_methodNamed hnamed
  have hinitP : kP.init = .initialized := Cond.initialized_spec (findClass_of_methodNamed hnamed) hkP hinit
  obtain ⟨vm₁, X₁, hstep₁⟩ := X.invokestatic hexec hown hlink hnamed hmethM hstatic hkP hinitP hy (g := g) hg (argsL := argsL) (rest := rest) (hlen _ hsigM) hstack hdg
  rcases hK m meth c ⟨T.setVm vm₁, locs, cells, slots⟩ { g with stack := rest } (.invokestatic index) mk argsL.toArray X₁ hg hsize hdg hW (X₁.named hnamed) (hpre vm₁ X₁.warmed) with ⟨v, B, X', hpost, hsteps⟩ | ⟨q, B, X', hpost, hsteps⟩
  · exact Or.inl ⟨v, vm₁, B, X₁.warmed, X', hpost, fun target h => hstep₁ _ fun acts => by rw [doInvoke_state]; exact hsteps.trans h⟩
  · exact Or.inr ⟨q, vm₁, B, X₁.warmed, X', hpost, hstep₁ _ fun acts => by rw [doInvoke_state]; exact hsteps⟩
end Calls
theorem vx_cls {s : State} {T : State} {vm₁ : Vm} {E : String} {k : ClassId} (hW : s.WarmedH vm₁) (h : (T.setVm vm₁).vm.findClass E = some k) : s.vm.findClass E = some k := by
  have h1 : vm₁.findClass E = some k := h
  rw [hW.alike.findClass] at h1
  exact h1
/-- the method's frame g, with q thrown over it -/
noncomputable def vx_W (p : Program) (l : Launch) (e : Env) (R : Room) (s : State) (m : MethodId) (args : Array Value) (below : List Frame) (meth : Method) (c : Code) (H : Heap) (locs : List Loc) (cells slots : Nat) (Q : State → Prop) (g : JFrame) (q : Addr) : Prop :=
  ∀ T : State, T.heap = H → Stand p l e R s m args below meth c T locs cells slots → ∃ t, Steps p.tables e below ((T.setTop g).pushFrame (.throwing q)) t ∧ Q t
noncomputable def vx_Run (p : Program) (l : Launch) (e : Env) (R : Room) (s : State) (m : MethodId) (args : Array Value) (below : List Frame) (meth : Method) (c : Code) (H : Heap) (locs : List Loc) (cells slots mc ms : Nat) (g : JFrame) (rest : List Value) (Qa : State → Outcome → State → Prop) (XC : String → State → State → Prop) (free : Addr → Prop) : Prop :=
  ∀ T : State, T.heap = H → Stand p l e R s m args below meth c T locs cells slots →
    (∃ (v : Option Value) (st₀ t T' : State) (L : List Loc), st₀.heap = H ∧ Stand p l e R s m args below meth c T' (locs ++ L) (cells + mc) (slots + ms) ∧ (∀ q ∈ L, free q.base) ∧ T'.heap = t.heap ∧ T'.vm = t.vm ∧ Qa st₀ (.returned v) t ∧
      Goes p e below T g T' { g with pc := g.pc + 3, stack := v.toList ++ rest }) ∨
    (∃ (q : Addr) (st₀ t T' : State) (L : List Loc) (E : String) (ce : Cell), st₀.heap = H ∧ Stand p l e R s m args below meth c T' (locs ++ L) (cells + mc) (slots + ms) ∧ (∀ z ∈ L, free z.base) ∧ T'.heap = t.heap ∧ T'.vm = t.vm ∧ XC E st₀ t ∧ t.heap[q]? = some ce ∧ ce.vm = .none ∧ s.vm.findClass E = some ce.cls ∧
      Steps p.tables e below (T.setTop g) ((T'.setTop { g with stack := rest }).pushFrame (.throwing q)))
section Runs
variable {p : Program} {l : Launch} {e : Env} {R : Room} {s : State} {m : MethodId} {args : Array Value} {below : List Frame} {meth : Method} {c : Code} {H : Heap} {locs : List Loc} {cells slots : Nat}
variable {y : MethodName} {bytes cc : ByteArray} {maxL nL mc ms n index : Nat} {ret : Option FieldType} {ws : List Cond} {rm : Room} {Pc : Array Value → State → Prop} {Qc : Array Value → State → Outcome → State → Prop} {XC : String → State → State → Prop} {free : Addr → Prop} {Ts : List Cond} {own C : String} {b : Addr} {As rest : List Value} {g : JFrame}
theorem vx_callBack (cb : CallB R s args own index y bytes maxL ret ws rm mc ms n) (hM : vx_Met l y ws rm Pc Qc XC mc ms free) (hbl : FrameBlind Pc) : vx_Back l R p e below s args y 3 8 (PreOf R mc ms Pc) (PostOf Qc mc ms free) (vx_Post XC mc ms free) := by
  obtain ⟨hrc, hrs, hfr, hlo, hws, hcw, -, hini, -⟩ := cb
  exact vx_back (bytes := bytes) (maxL := maxL) (ret := ret) hM hbl hrc hrs hfr hlo hws hcw (fun a' U hW => word_at hW (Or.inl (by first | rfl | simp [Cond.onTables, Cond.keeps, Cond.steady])) hini)
theorem vx_runV (S : CallFix p m c cc nL s args Ts own) (hM : vx_Met l y ws rm Pc Qc XC mc ms free) (cw : CallW R s args own C index y bytes maxL ret ws rm mc ms n) (hp : PreV s H C b Pc As)
    (hg : g.method = m) (hn : As.length = n) (hsize : g.locals.size = nL) (hstack : g.stack = As.reverse ++ .ref b :: rest) (hW : 2 * g.monitorRoom + (rest.map fun v => v.category).sum ≤ 8) (hdg : decode cc g.pc = .ok (.invokevirtual index, 3)) (hf : cells + mc ≤ R.cells ∧ slots + ms ≤ R.slots) :
    vx_Run p l e R s m args below meth c H locs cells slots mc ms g rest (Qc (Value.ref b :: As).toArray) XC free := by
  have hK : vx_Back l R p e below s args y 3 8 (PreOf R mc ms Pc) (PostOf Qc mc ms free) (vx_Post XC mc ms free) := vx_callBack cw.1 hM hp.1
  obtain ⟨⟨-, -, -, -, -, -, hcode, -, hy, hlen, hl⟩, hin, hse⟩ := cw
  obtain ⟨hx, hb, hml, ho, -⟩ := S
  obtain ⟨-, ⟨cellB, hcB, hoB, hclB⟩, hPc⟩ := hp
  intro T hT X
  rcases vx_callV X hx (C := C) (bytes := bytes) (maxL := maxL) (ret := ret) ho hl hin hse hcode hy hK (by rw [hT]; exact hcB) hoB hclB hg (hsize.trans hml.symm) (argsL := As) (rest := rest) (fun sig h => hn.trans (hlen sig h)) hstack hW (by rw [hb]; exact hdg)
    (fun vm₁ hW₁ => ⟨hf.1, hf.2, hPc (T.setVm vm₁) hT hW₁⟩) with ⟨v, vm₁, ⟨U', l2, c2, s2⟩, hW₁, X', ⟨g', mk, t, L, e1, e2, hq, h1, hL, h2, h3⟩, st⟩ | ⟨q, vm₁, ⟨U', l2, c2, s2⟩, hW₁, X', ⟨g', mk, t, L, E, ce, e1, e2, hq, hce, hcv, hcl, h1, hL, h2, h3⟩, st⟩
  · dsimp only [Pt.U, Pt.locs, Pt.cells, Pt.slots] at X' e1 e2 h1 h2 h3 st
    subst h1; subst h2; subst h3
    exact Or.inl ⟨v, (T.setVm vm₁).calling g' mk (Value.ref b :: As).toArray, t, U', L, hT, X', hL, e1, e2, hq, st⟩
  · dsimp only [Pt.U, Pt.locs, Pt.cells, Pt.slots] at X' e1 e2 h1 h2 h3 st hcl
    subst h1; subst h2; subst h3
    exact Or.inr ⟨q, (T.setVm vm₁).calling g' mk (Value.ref b :: As).toArray, t, U', L, E, ce, hT, X', hL, e1, e2, hq, hce, hcv, vx_cls hW₁ hcl, st⟩
end Runs
section Rows
variable {p : Program} {l : Launch} {e : Env} {R : Room} {s : State} {m : MethodId} {args : Array Value} {below : List Frame} {meth : Method} {c : Code} {H : Heap} {locs : List Loc} {cells slots : Nat} {Q : State → Prop}
variable {mc ms : Nat} {free : Addr → Prop} {A0 A1 : Nat → Prop} {H0 : Heap} {a : Array Value} {pc : Nat} {ls : Array Slot} {st0 rest : List Value}
/-- caught by the row x of this method's table; the rows ahead don't take it -/
theorem vx_catch {own name : String} {E : String} {ce : Cell} {q : Addr} (hown : s.vm.findClass own = some m.cls) (pre : List ExceptionTableEntry) (x : ExceptionTableEntry) (suf : List ExceptionTableEntry) (hsplit : c.exceptionTable.toList = pre ++ x :: suf)
    (hpass : ∀ z ∈ pre, covers z pc = false ∨ (z.catchType ≠ 0 ∧ ∃ nm : String, (Cond.classLink own z.catchType nm).before args s = true ∧ va_Nc E nm s)) (hx : covers x pc = true) (h0 : x.catchType ≠ 0)
    (hlink : (Cond.classLink own x.catchType name).before args s = true) (hcast : (Cond.castable E name).before args s = true) (hcell : H[q]? = some ce) (hv : ce.vm = .none) (hcl : s.vm.findClass E = some ce.cls)
    (kk : W p l e R s m args below meth c H locs cells slots Q (F0 m x.handlerPc ls [.ref q])) : vx_W p l e R s m args below meth c H locs cells slots Q (F0 m pc ls rest) q := by
  intro T hT X
  have hpl : e.platform.magicAccessors = ({} : Platform).magicAccessors := by rw [X.admits.platform]
  obtain ⟨c3, c4, hc3, hc4, hasg⟩ := Cond.castable_spec hcast
  cases Option.some.inj (hc3.symm.trans hcl)
  obtain ⟨c5, hc5, hcl5⟩ := Cond.classLink_spec hown hlink e.platform hpl
  cases Option.some.inj (hc4.symm.trans hc5)
  obtain ⟨vm', X', st⟩ := Jvm.Stand.thenCaughtThrough X q (g := F0 m pc ls rest) rfl (Steps.refl _) (by rw [hT]; exact hcell) (by rw [hv]; rfl) (by obtain ⟨k9, h9, -⟩ := Vm.findClass_spec hcl; exact ⟨k9, h9⟩) pre x suf hsplit
    (fun z hz => by
      rcases hpass z hz with h | ⟨hz0, nm, hl1, hn1⟩
      · exact Or.inl h
      · obtain ⟨c6, hc6, hcl6⟩ := Cond.classLink_spec hown hl1 e.platform hpl
        obtain ⟨a8, b8, h1, h2, h3⟩ := hn1
        cases Option.some.inj (h1.symm.trans hcl)
        cases Option.some.inj (h2.symm.trans hc6)
        exact Or.inr ⟨hz0, _, hcl6, h3⟩) hx (Or.inr ⟨h0, c4, hcl5, hasg⟩)
  obtain ⟨t, a1, b1⟩ := kk (T.setVm vm') hT X'
  exact ⟨t, st.trans a1, b1⟩
end Rows
section Ends
variable {p : Program} {l : Launch} {e : Env} {R : Room} {s : State} {m : MethodId} {args : Array Value} {below : List Frame} {meth : Method} {c : Code} {H : Heap} {locs : List Loc} {cells slots : Nat} {Q : State → Prop}
variable {mc ms : Nat} {free : Addr → Prop} {A0 A1 : Nat → Prop} {H0 : Heap} {a : Array Value} {ls : Array Slot} {st0 rest : List Value}
variable {Qc : Array Value → State → Outcome → State → Prop} {XC : String → State → State → Prop}
/-- what a body that may throw owes at its end -/
noncomputable def vx_MQ (below : List Frame) (Qc : Array Value → State → Outcome → State → Prop) (XC : String → State → State → Prop) (a : Array Value) (s : State) (mc ms : Nat) (free : Addr → Prop) : State → Prop := fun t =>
  ∃ o, t.status = .running ∧ Ended t below o ∧ vx_Q Qc XC mc ms free a s o t
theorem vx_ret {g : JFrame} {mc ms : Nat} (k : W p l e R s m args below meth c H locs cells slots (MQ below Qc args s mc ms free) g) : W p l e R s m args below meth c H locs cells slots (vx_MQ below Qc XC args s mc ms free) g := by
  intro T hT X
  obtain ⟨t, a1, o, b1, b2, b3, b4⟩ := k T hT X
  exact ⟨t, a1, o, b1, b2, Or.inl ⟨b3, b4⟩⟩
theorem vx_frame {U : State} {k n : Nat} (h : s.sameButNew ({ U with vm := s.vm } : State) locs k n) : s.heap.size ≤ U.heap.size ∧ ∀ q : Nat, q < s.heap.size → (∀ z ∈ locs, z.base ≠ q) → U.heap[q]? = s.heap[q]? := by
  obtain ⟨-, h2, -, -, -, h6⟩ := h
  refine ⟨h2, fun q hq hz => ?_⟩
  obtain ⟨c9, e1, e2, e3, e4⟩ := h6 q _ (Array.getElem?_eq_getElem hq)
  have hs : c9.slots = (s.heap[q]).slots := Array.ext_getElem? fun i => e4 i fun hm => hz _ hm rfl
  have h9 : c9 = s.heap[q] := by
    rw [hs] at e2
    exact e2
  have e5 : U.heap[q]? = some c9 := e1
  rw [e5, h9, Array.getElem?_eq_getElem hq]
/-- the words of a throw but the four that speak of the heap -/
noncomputable def vx_no (w : Cond) : Bool := decide (w ≠ .isRef (.static Bundle.tN "UNASSIGNED_STACK" Bundle.steD)) && decide (w ≠ .isRef (.static Bundle.tN "SUPPRESSED_SENTINEL" Bundle.listD)) && decide (w ≠ .laysStatic Bundle.tN "UNASSIGNED_STACK" Bundle.steD) && decide (w ≠ .laysStatic Bundle.tN "SUPPRESSED_SENTINEL" Bundle.listD)
noncomputable def vx_at0 (own : String) (ic : Nat) (X : String) (names : List String) : List Cond := (Bundle.ownAtoms0 own ic X names).filter vx_no
noncomputable def vx_atS (own : String) (ic : Nat) (X : String) (names : List String) : List Cond := (Bundle.ownAtoms own ic X names).filter vx_no
/-- a word that the tables alone decide, or a good one -/
noncomputable def vx_ot (w : Cond) : Bool := w.onTables || goodWord w
theorem vx_ot_at {args a' : Array Value} {s U : State} {w : Cond} (hW : s.WarmedH U.vm) (hvm : s.vm = U.vm) (hg : vx_ot w = true) (h : w.before args s = true) : w.before a' U = true := by
  simp only [vx_ot, Bool.or_eq_true] at hg
  rcases hg with hg | hg
  · exact va_tabs hg hvm h
  · exact word_at hW (good_of_word hg) h
theorem vx_own {args : Array Value} {s : State} {L : List Cond} (h1 : ∀ w ∈ L.filter vx_no, w.before args s = true)
    (hU : (Cond.isRef (.static Bundle.tN "UNASSIGNED_STACK" Bundle.steD)).before args s = true) (hN : (Cond.isRef (.static Bundle.tN "SUPPRESSED_SENTINEL" Bundle.listD)).before args s = true)
    (lU : (Cond.laysStatic Bundle.tN "UNASSIGNED_STACK" Bundle.steD).before args s = true) (lN : (Cond.laysStatic Bundle.tN "SUPPRESSED_SENTINEL" Bundle.listD).before args s = true) : ∀ w ∈ L, w.before args s = true := by
  intro w hw
  by_cases e1 : w = .isRef (.static Bundle.tN "UNASSIGNED_STACK" Bundle.steD)
  · rw [e1]; exact hU
  · by_cases e2 : w = .isRef (.static Bundle.tN "SUPPRESSED_SENTINEL" Bundle.listD)
    · rw [e2]; exact hN
    · by_cases e3 : w = .laysStatic Bundle.tN "UNASSIGNED_STACK" Bundle.steD
      · rw [e3]; exact lU
      · by_cases e4 : w = .laysStatic Bundle.tN "SUPPRESSED_SENTINEL" Bundle.listD
        · rw [e4]; exact lN
        · exact h1 w (List.mem_filter.mpr ⟨hw, by unfold vx_no; rw [decide_eq_true e1, decide_eq_true e2, decide_eq_true e3, decide_eq_true e4]; rfl⟩)
/-- where a static field lies, its kind's statics cell in H -/
noncomputable def vx_L (C n d : String) (A : Nat → Prop) (U : State) (H : Heap) : Prop := ∃ (c : ClassId) (k : Class) (i : Nat) (f : Field) (a : Nat) (cell : Cell), U.vm.findClass C = some c ∧ U.fieldFound? C n d = some (c, k, i, f) ∧ f.isStatic = true ∧ k.statics = some a ∧ H[a]? = some cell ∧ cell.vm.isStatics = true ∧ cell.cls = c ∧ f.slot < cell.slots.size ∧ k.staticTypes[f.slot]? = some f.type ∧ ¬ A a
theorem vx_L.moved {C n d : String} {A : Nat → Prop} {u U : State} {H : Heap} (hvm : u.vm.Alike U.vm) (h : vx_L C n d A u H) : vx_L C n d A U H := by
  obtain ⟨c, k, i, f, a, cell, h1, h2, h3, h4, h5, h6, h7, h8, h9, h10⟩ := h
  obtain ⟨k', hi', he⟩ := State.fieldFound?_setVm hvm h2
  exact ⟨c, k', i, f, a, cell, by rw [hvm.findClass]; exact h1, hi', h3, by rw [he]; exact h4, h5, h6, h7, h8, by rw [he]; exact h9, h10⟩
theorem vx_L.kept {C n d : String} {A : Nat → Prop} {U : State} {H H1 : Heap} (h : vx_L C n d A U H) (hq : ∀ a : Nat, a < H.size → ¬ A a → H1[a]? = H[a]?) : vx_L C n d A U H1 := by
  obtain ⟨c, k, i, f, a, cell, h1, h2, h3, h4, h5, h6, h7, h8, h9, h10⟩ := h
  exact ⟨c, k, i, f, a, cell, h1, h2, h3, h4, by rw [hq a (Array.getElem?_eq_some_iff.mp h5).1 h10]; exact h5, h6, h7, h8, h9, h10⟩
theorem vx_L.narrow {C n d : String} {A B : Nat → Prop} {U : State} {H : Heap} (h : vx_L C n d A U H) (hAB : ∀ q, B q → A q) : vx_L C n d B U H := by
  obtain ⟨c, k, i, f, a, cell, h1, h2, h3, h4, h5, h6, h7, h8, h9, h10⟩ := h
  exact ⟨c, k, i, f, a, cell, h1, h2, h3, h4, h5, h6, h7, h8, h9, fun z => h10 (hAB _ z)⟩
theorem vx_L.word {C n d : String} {A : Nat → Prop} {s : State} {args : Array Value} (h : vx_L C n d A s s.heap) : (Cond.laysStatic C n d).before args s = true := by
  obtain ⟨c, k, i, f, a, cell, h1, h2, h3, h4, h5, h6, h7, h8, h9, -⟩ := h
  show (Cond.laysStatic C n d).holds args s none s [] = true
  exact Cond.laysStatic_of h1 h2 h3 h4 h5 h6 h7 h8 h9
/-- .. and what it holds: null or some reference -/
noncomputable def vx_Zq (C n d : String) (A : Nat → Prop) (U : State) (H : Heap) : Prop := va_Zq C n d A U H ∧ vx_L C n d A U H
theorem vx_Zq.moved {C n d : String} {A : Nat → Prop} {u U : State} {H : Heap} (hvm : u.vm.Alike U.vm) (h : vx_Zq C n d A u H) : vx_Zq C n d A U H := ⟨va_Zq.moved hvm h.1, vx_L.moved hvm h.2⟩
theorem vx_Zq.kept {C n d : String} {A : Nat → Prop} {U : State} {H H1 : Heap} (h : vx_Zq C n d A U H) (hq : ∀ a : Nat, a < H.size → ¬ A a → H1[a]? = H[a]?) : vx_Zq C n d A U H1 := ⟨va_Zq.kept h.1 hq, vx_L.kept h.2 hq⟩
theorem vx_Zq.narrow {C n d : String} {A B : Nat → Prop} {U : State} {H : Heap} (h : vx_Zq C n d A U H) (hAB : ∀ q, B q → A q) : vx_Zq C n d B U H := ⟨va_Zq.narrow h.1 hAB, vx_L.narrow h.2 hAB⟩
theorem vx_Zqof {args : Array Value} {s : State} {C n d : String} {A : Nat → Prop} (hl : (Cond.laysStatic C n d).before args s = true) (hini : (Cond.initialized C).before args s = true) (h : (Cond.isRef (.static C n d)).before args s = true) (hA : ∀ a : Nat, a < s.heap.size → ¬ A a) : vx_Zq C n d A s s.heap := by
  refine ⟨va_Zqof hl hini h hA, ?_⟩
  obtain ⟨c, k, i, f, a, cell, h1, h2, h3, h4, h5, h6, h7, h8, h9⟩ := Cond.laysStatic_spec hl
  exact ⟨c, k, i, f, a, cell, h1, h2, h3, h4, h5, h6, h7, h8, h9, hA a (Array.getElem?_eq_some_iff.mp h5).1⟩
theorem vx_isRef {C n d : String} {v : Value} {A : Nat → Prop} {s : State} {args : Array Value} (h : va_Z C n d v A s s.heap) (hv : v.isRef = true) : (Cond.isRef (.static C n d)).before args s = true := by
  obtain ⟨cf, kf, fi, f, a, cell, h1, h2, h3, h4, h5, h6, h7, -⟩ := h
  have he : (Term.static C n d).eval args s none [] s = some v := by
    simp [Term.eval, State.fieldNamed?, h1, h2, h4, h5, h6, h7]
  simp only [Cond.before, Cond.holds, Cond.value, he]
  cases v <;> simp_all [Value.isRef]
theorem vx_isRefq {C n d : String} {A : Nat → Prop} {s : State} {args : Array Value} (h : va_Zq C n d A s s.heap) : (Cond.isRef (.static C n d)).before args s = true := by
  rcases h with h | ⟨t, h⟩
  · exact vx_isRef h rfl
  · exact vx_isRef h rfl
/-- the same frame, seen from here: as if the method were called anew in this heap -/
theorem vx_rebase {T : State} (X : Stand p l e R s m args below meth c T locs cells slots) {R' : Room} (hf : R'.frames ≤ R.frames) (hl : R'.locals ≤ R.locals) (hc : cells + R'.cells ≤ R.cells) (hs : slots + R'.slots ≤ R.slots) :
    Stand p l e R' ((T.setVm s.vm).setFrames (.invoking m args :: below)) m args below meth c T [] 0 0 := by
  have htop : (T.setVm s.vm).topJava?.isSome := X.here.top
  have hF : ((T.setVm s.vm).setFrames (.invoking m args :: below)).frames = .invoking m args :: below := State.frames_setFrames _ (State.cur_lt_of_top htop)
  obtain ⟨g₀, hg0⟩ := Option.isSome_iff_exists.mp htop
  obtain ⟨r, hr⟩ := State.topJava?_eq_some.mp hg0
  have hl9 : e.platform.stackLimits (T.setVm s.vm).me = e.platform.stackLimits s.me := X.limits
  have hb9 : (T.setVm s.vm).me.stackBytes = s.me.stackBytes := X.bytes
  refine ⟨X.admits, X.cas, X.clock, hF, ?_, X.hears, X.method, X.code, X.here, X.tail, X.warmed, ?_, ?_, ?_⟩
  · have h := X.room
    have hU : ((T.setVm s.vm).setFrames (.invoking m args :: below)).localsInUse = s.localsInUse := by
      rw [State.localsInUse_invoking hF (meth := meth) (c := c) X.method X.code, State.localsInUse_invoking X.frames X.method X.code]
    simp only [State.hasRoom, Bool.and_eq_true, decide_eq_true_eq] at h ⊢
    obtain ⟨⟨⟨⟨h1, h2, h3, h4, h5, h6⟩, h7⟩, h8⟩, h9⟩ := h
    rw [X.frames, List.length_cons] at h2 h3
    have q1 := X.heapSize
    have q2 := X.used
    simp only [hF, hU, List.length_cons, State.stackLimits_setFrames, State.stackBytes_setFrames, hl9, hb9]
    refine ⟨⟨⟨⟨by omega, by omega, by omega, by omega, by omega, h6⟩, ?_⟩, ?_⟩, X.book⟩
    · show T.heap.size + R'.cells ≤ e.platform.maxCells
      omega
    · show T.slotsUsed + R'.slots ≤ e.platform.maxSlots
      omega
  · rw [State.stackLimits_setFrames]; rfl
  · rw [State.stackBytes_setFrames]; rfl
  · refine ⟨?_, Nat.le_refl _, Nat.le_refl _, ?_, ?_, fun a c9 h9 => ⟨c9, h9, rfl, rfl, fun _ _ => rfl⟩⟩
    · obtain ⟨t, ht, -⟩ := State.frames_cons hr
      show T.setVm s.vm = { ((T.setVm s.vm).setFrames (.invoking m args :: below)).setFrames (T.setVm s.vm).frames with heap := T.heap, slotsUsed := T.slotsUsed }
      rw [State.setFrames_setFrames, State.setFrames_self ht]
      rfl
    · show T.slotsUsed = T.slotsUsed + ((T.heap.toList.drop T.heap.size).map (·.slots.size)).sum
      rw [List.drop_eq_nil_of_le (Nat.le_of_eq Array.length_toList)]
      rfl
    · show ((T.heap.toList.drop T.heap.size).map (·.slots.size)).sum ≤ 0
      rw [List.drop_eq_nil_of_le (Nat.le_of_eq Array.length_toList)]
      exact Nat.le_refl _
/-- 'throw new E()': new; dup; invokespecial; athrow -/
theorem vx_throw0 {cc : ByteArray} {pc : Nat} (hexec : p.tables.exec = Jvm.exec) (hb : c.code = cc) (hl : l.stackTraces = false) {own cls : String} {names : List String} {ik ic mc ms : Nat} {A : Nat → Prop}
    (hown : s.vm.findClass own = some m.cls) (hcls : Bundle.fit cls = true) (hnames : ∀ n ∈ names, Bundle.fit n = true)
    (hk : (Cond.classLink own ik cls).before args s = true) (hini : (Cond.initialized cls).before args s = true) (hat : ∀ w ∈ vx_at0 own ic cls names, w.before args s = true)
    (hgood : ∀ w ∈ Cond.classLink own ik cls :: Cond.initialized cls :: vx_at0 own ic cls names, vx_ot w = true)
    (hU : vx_Zq Bundle.tN "UNASSIGNED_STACK" Bundle.steD A s s.heap) (hN : vx_Zq Bundle.tN "SUPPRESSED_SENTINEL" Bundle.listD A s s.heap) (hS : va_S A s.heap H locs) (hsize : ls.size = c.maxLocals)
    (d0 : decode cc pc = .ok (.new ik, 3)) (d3 : decode cc (pc + 3) = .ok (.dup, 1)) (d4 : decode cc (pc + 4) = .ok (.invokespecial ic, 3)) (d7 : decode cc (pc + 7) = .ok (.athrow, 1))
    (hout : ∀ x ∈ c.exceptionTable.toList, covers x (pc + 7) = false)
    (hRframes : names.length + 3 < R.frames) (hRlocals : (rest.map fun v => v.category).sum + (13 * (names.length + 1) + 42) ≤ R.locals) (hRcells : cells + 1 ≤ R.cells) (hRslots : slots + 6 ≤ R.slots) (hlocks : meth.locks = false)
    (hx : ∀ t : State, s.vm.Alike t.vm → H.size ≤ t.heap.size → (∀ q : Nat, q < H.size → t.heap[q]? = H[q]?) → XC cls s t)
    (hf : ∀ z ∈ locs, free z.base) (hc : cells + 1 ≤ mc) (hs : slots + 6 ≤ ms) :
    W p l e R s m args below meth c H locs cells slots (vx_MQ below Qc XC args s mc ms free) (F0 m pc ls rest) := by
  intro T hT X
  have htr : e.platform.stackTraces = false := (show e.platform.stackTraces = l.stackTraces by rw [X.admits.platform]).trans hl
  have Y := vx_rebase X (R' := { frames := R.frames, locals := R.locals, cells := 1, slots := 6 }) (Nat.le_refl _) (Nat.le_refl _) hRcells hRslots
  obtain ⟨s', hA⟩ : ∃ z, z = (T.setVm s.vm).setFrames (.invoking m args :: below) := ⟨_, rfl⟩
  rw [← hA] at Y
  have hvm : s'.vm = s.vm := by rw [hA]; rfl
  have hhp : s'.heap = H := by rw [hA]; exact hT
  have hW0 : s.WarmedH s'.vm := by rw [hvm]; exact State.WarmedH.refl s
  have hat' : ∀ w ∈ vx_at0 own ic cls names, w.before args s' = true := fun w hw => vx_ot_at hW0 hvm.symm (hgood w (List.mem_cons_of_mem _ (List.mem_cons_of_mem _ hw))) (hat w hw)
  have hk' : (Cond.classLink own ik cls).before args s' = true := vx_ot_at hW0 hvm.symm (hgood _ List.mem_cons_self) hk
  have hini' : (Cond.initialized cls).before args s' = true := vx_ot_at hW0 hvm.symm (hgood _ (List.mem_cons_of_mem _ List.mem_cons_self)) hini
  have hU' : vx_Zq Bundle.tN "UNASSIGNED_STACK" Bundle.steD A s' s'.heap := by rw [hhp]; exact vx_Zq.moved hW0.alike (hU.kept hS.2.1)
  have hN' : vx_Zq Bundle.tN "SUPPRESSED_SENTINEL" Bundle.listD A s' s'.heap := by rw [hhp]; exact vx_Zq.moved hW0.alike (hN.kept hS.2.1)
  have h : ∀ w ∈ Bundle.ownAtoms0 own ic cls names, w.before args s' = true := vx_own hat' (vx_isRefq hU'.1) (vx_isRefq hN'.1) hU'.2.word hN'.2.word
  have hown' : s'.vm.findClass own = some m.cls := by rw [hvm]; exact hown
  have hins : (Cond.instantiable cls 6).before args s' = true := h _ (by simp [Bundle.ownAtoms0])
  obtain ⟨vm₁, cX, kX, hfX, hkX, -, -, X₁, st1⟩ := Y.newCold hexec (own := own) (C := cls) (index := ik) (n := 6) hown' hk' hins hini'
    (g := F0 m pc ls rest) rfl (by rw [hb]; exact d0) (Nat.le_refl _) (Nat.le_refl _)
  generalize hT1 : (T.setVm vm₁).pushCell { cls := cX, slots := kX.instanceTypes.map defaultValue, vm := .none } = T1 at X₁ st1
  have hcat : (Value.ref T.heap.size).category = 1 := rfl
  have hcellA : T1.heap[T.heap.size]? = some (freshCell cX kX) := by rw [← hT1]; exact State.heap_pushCell_size _ _
  have d3' : decode c.code (pc + 3) = .ok (.dup, 1) := by rw [hb]; exact d3
  obtain ⟨U, hsteps, hrun, hend, hW, hsame, ce, hce, hO⟩ := X₁.ctorThrow0 hexec htr (own := own) (cls := cls) (names := names) (ic := ic) hown' hcls hnames h (fun x hx => nomatch hx) hfX hkX hcellA (by rw [hhp, hT]; exact Nat.le_refl _)
    (g := { method := m, pc := pc + 4, locals := ls, stack := .ref T.heap.size :: .ref T.heap.size :: rest, locked := none }) rfl hsize rfl rfl (rest := rest) rfl
    (by rw [hb]; exact d4) (by rw [hb]; exact d7) hout hRframes (by simp only [List.map_cons, List.sum_cons, hcat]; omega) hlocks
  obtain ⟨f1, f2⟩ := vx_frame hsame
  rw [hhp] at f1 f2
  have hWs : s.WarmedH U.vm := State.WarmedH.trans hW0 hW
  have hcl : s.vm.findClass cls = some ce.cls := by
    have h9 := hO.cls
    rw [hvm] at h9
    exact h9
  have hall : s.sameButNew ({ U with vm := s.vm } : State) locs mc ms := by
    subst hA
    obtain ⟨e1, e2⟩ := hsame
    rw [State.setFrames_setFrames] at e1
    have h2 : (T.setVm s.vm).sameButNew ({ U with vm := s.vm } : State) [] (0 + 1) (0 + 6) := ⟨e1, e2⟩
    have h3 := X.same.trans h2
    rw [List.append_nil] at h3
    exact h3.mono hc hs
  refine ⟨U, ?_, .threw T.heap.size, hrun, hend, Or.inr ⟨T.heap.size, rfl, cls, ce, locs, hx U hWs.alike f1 (fun q hq => f2 q hq (fun z hz => nomatch hz)), hce, hO.vm, hcl, hWs, hall, hf⟩⟩
  refine st1 _ ?_
  show Steps p.tables e below (T1.setTop { method := m, pc := pc + 3, locals := ls, stack := .ref T.heap.size :: rest, locked := none }) _
  jvm_step X₁.here [X₁.here.top, hexec, d3', Value.category]
  exact hsteps
/-- 'throw new E("text")': new; dup; ldc; invokespecial; athrow -/
theorem vx_throwS {cc : ByteArray} {pc : Nat} (hexec : p.tables.exec = Jvm.exec) (hb : c.code = cc) (hl : l.stackTraces = false) {own cls text : String} {names : List String} {ik is ic mc ms sa : Nat} {A : Nat → Prop}
    (hown : s.vm.findClass own = some m.cls) (hcls : Bundle.fit cls = true) (hnames : ∀ n ∈ names, Bundle.fit n = true)
    (hk : (Cond.classLink own ik cls).before args s = true) (hini : (Cond.initialized cls).before args s = true) (hstr : vk_R own is text sa s) (hat : ∀ w ∈ vx_atS own ic cls names, w.before args s = true)
    (hgood : ∀ w ∈ Cond.classLink own ik cls :: Cond.initialized cls :: vx_atS own ic cls names, vx_ot w = true)
    (hU : vx_Zq Bundle.tN "UNASSIGNED_STACK" Bundle.steD A s s.heap) (hN : vx_Zq Bundle.tN "SUPPRESSED_SENTINEL" Bundle.listD A s s.heap) (hS : va_S A s.heap H locs) (hsize : ls.size = c.maxLocals)
    (d0 : decode cc pc = .ok (.new ik, 3)) (d3 : decode cc (pc + 3) = .ok (.dup, 1)) (d4 : decode cc (pc + 4) = .ok (.ldc is, 2)) (d6 : decode cc (pc + 6) = .ok (.invokespecial ic, 3)) (d9 : decode cc (pc + 9) = .ok (.athrow, 1))
    (hout : ∀ x ∈ c.exceptionTable.toList, covers x (pc + 9) = false)
    (hRframes : names.length + 3 < R.frames) (hRlocals : (rest.map fun v => v.category).sum + (13 * (names.length + 1) + 43) ≤ R.locals) (hRcells : cells + 1 ≤ R.cells) (hRslots : slots + 6 ≤ R.slots) (hlocks : meth.locks = false)
    (hx : ∀ t : State, s.vm.Alike t.vm → H.size ≤ t.heap.size → (∀ q : Nat, q < H.size → t.heap[q]? = H[q]?) → XC cls s t)
    (hf : ∀ z ∈ locs, free z.base) (hc : cells + 1 ≤ mc) (hs : slots + 6 ≤ ms) :
    W p l e R s m args below meth c H locs cells slots (vx_MQ below Qc XC args s mc ms free) (F0 m pc ls rest) := by
  intro T hT X
  have htr : e.platform.stackTraces = false := (show e.platform.stackTraces = l.stackTraces by rw [X.admits.platform]).trans hl
  have Y := vx_rebase X (R' := { frames := R.frames, locals := R.locals, cells := 1, slots := 6 }) (Nat.le_refl _) (Nat.le_refl _) hRcells hRslots
  obtain ⟨s', hA⟩ : ∃ z, z = (T.setVm s.vm).setFrames (.invoking m args :: below) := ⟨_, rfl⟩
  rw [← hA] at Y
  have hvm : s'.vm = s.vm := by rw [hA]; rfl
  have hhp : s'.heap = H := by rw [hA]; exact hT
  have hW0 : s.WarmedH s'.vm := by rw [hvm]; exact State.WarmedH.refl s
  have hat' : ∀ w ∈ vx_atS own ic cls names, w.before args s' = true := fun w hw => vx_ot_at hW0 hvm.symm (hgood w (List.mem_cons_of_mem _ (List.mem_cons_of_mem _ hw))) (hat w hw)
  have hk' : (Cond.classLink own ik cls).before args s' = true := vx_ot_at hW0 hvm.symm (hgood _ List.mem_cons_self) hk
  have hini' : (Cond.initialized cls).before args s' = true := vx_ot_at hW0 hvm.symm (hgood _ (List.mem_cons_of_mem _ List.mem_cons_self)) hini
  have hU' : vx_Zq Bundle.tN "UNASSIGNED_STACK" Bundle.steD A s' s'.heap := by rw [hhp]; exact vx_Zq.moved hW0.alike (hU.kept hS.2.1)
  have hN' : vx_Zq Bundle.tN "SUPPRESSED_SENTINEL" Bundle.listD A s' s'.heap := by rw [hhp]; exact vx_Zq.moved hW0.alike (hN.kept hS.2.1)
  have h : ∀ w ∈ Bundle.ownAtoms own ic cls names, w.before args s' = true := vx_own hat' (vx_isRefq hU'.1) (vx_isRefq hN'.1) hU'.2.word hN'.2.word
  have hown' : s'.vm.findClass own = some m.cls := by rw [hvm]; exact hown
  have hins : (Cond.instantiable cls 6).before args s' = true := h _ (by simp [Bundle.ownAtoms])
  obtain ⟨vm₁, cX, kX, hfX, hkX, -, -, X₁, st1⟩ := Y.newCold hexec (own := own) (C := cls) (index := ik) (n := 6) hown' hk' hins hini'
    (g := F0 m pc ls rest) rfl (by rw [hb]; exact d0) (Nat.le_refl _) (Nat.le_refl _)
  generalize hT1 : (T.setVm vm₁).pushCell { cls := cX, slots := kX.instanceTypes.map defaultValue, vm := .none } = T1 at X₁ st1
  have hcat : (Value.ref T.heap.size).category = 1 := rfl
  have hcellA : T1.heap[T.heap.size]? = some (freshCell cX kX) := by rw [← hT1]; exact State.heap_pushCell_size _ _
  have d3' : decode c.code (pc + 3) = .ok (.dup, 1) := by rw [hb]; exact d3
  have d4' : decode c.code (pc + 4) = .ok (.ldc is, 2) := by rw [hb]; exact d4
  have hstr' : vk_R own is text sa s' := vk_R.warm hW0 hstr
  obtain ⟨U, hsteps, hrun, hend, hW, hsame, ce, hce, hO⟩ := X₁.ctorThrowS hexec htr (own := own) (cls := cls) (names := names) (ic := ic) hown' hcls hnames h (fun x hx => nomatch hx) hfX hkX hcellA (by rw [hhp, hT]; exact Nat.le_refl _) (msg := .ref sa) rfl
    (g := { method := m, pc := pc + 6, locals := ls, stack := .ref sa :: .ref T.heap.size :: .ref T.heap.size :: rest, locked := none }) rfl hsize rfl rfl (rest := rest) rfl
    (by rw [hb]; exact d6) (by rw [hb]; exact d9) hout hRframes (by simp only [List.map_cons, List.sum_cons, hcat]; omega) hlocks
  obtain ⟨f1, f2⟩ := vx_frame hsame
  rw [hhp] at f1 f2
  have hWs : s.WarmedH U.vm := State.WarmedH.trans hW0 hW
  have hcl : s.vm.findClass cls = some ce.cls := by
    have h9 := hO.cls
    rw [hvm] at h9
    exact h9
  have hall : s.sameButNew ({ U with vm := s.vm } : State) locs mc ms := by
    subst hA
    obtain ⟨e1, e2⟩ := hsame
    rw [State.setFrames_setFrames] at e1
    have h2 : (T.setVm s.vm).sameButNew ({ U with vm := s.vm } : State) [] (0 + 1) (0 + 6) := ⟨e1, e2⟩
    have h3 := X.same.trans h2
    rw [List.append_nil] at h3
    exact h3.mono hc hs
  refine ⟨U, ?_, .threw T.heap.size, hrun, hend, Or.inr ⟨T.heap.size, rfl, cls, ce, locs, hx U hWs.alike f1 (fun q hq => f2 q hq (fun z hz => nomatch hz)), hce, hO.vm, hcl, hWs, hall, hf⟩⟩
  refine st1 _ ?_
  show Steps p.tables e below (T1.setTop { method := m, pc := pc + 3, locals := ls, stack := .ref T.heap.size :: rest, locked := none }) _
  jvm_step X₁.here [X₁.here.top, hexec, d3', Value.category]
  exact X₁.ldcString hexec (own := own) (text := text) (index := is) (a := sa) hown' hstr'.1 hstr'.2
    (g := { method := m, pc := pc + 4, locals := ls, stack := .ref T.heap.size :: .ref T.heap.size :: rest, locked := none }) rfl d4' _ hsteps
end Ends
section Bodies
variable {l : Launch}
theorem vx_ofW {y : MethodName} {ws ws' : List Cond} {rm : Room} {Pc : Array Value → State → Prop} {Qc : Array Value → State → Outcome → State → Prop} {XC : String → State → State → Prop} {mc ms : Nat} {free : Addr → Prop} {cc : ByteArray} {maxL : Nat} {ret : Option FieldType}
    (hy : plainName y.cls = true) (hw : ws = Cond.code y cc maxL ret :: ws')
    (body : ∀ p e s m args below meth c s₁, BodyLoose p l y (headSpec ws rm) cc maxL ret e s m args below meth c s₁ → c.maxLocals = maxL → (∀ x ∈ c.exceptionTable.toList, False) → Pc args s →
      W p l e (headSpec ws rm).room s m args below meth c s.heap [] 0 0 (vx_MQ below Qc XC args s mc ms free) (entryFrame m args maxL)) : vx_Met l y ws rm Pc Qc XC mc ms free := by
  refine MetFree.of_bodyS (code := cc) (maxLocals := maxL) (ret := ret) hy ?_ ?_
  · intro args s m h hn
    obtain ⟨meth, c, h1, h2, h3, h4, h5, h6, -, -⟩ := Cond.code_spec hn (atoms_spec (ws := ws) h _ (by rw [hw]; exact List.mem_cons_self))
    exact ⟨meth, c, h1, h2, h3, h4, h5, h6⟩
  · intro p e s m args below meth c s₁ B hml hP _
    have hh0 : s₁.heap = s.heap := by rw [B.state]; rfl
    have ht : ∀ x ∈ c.exceptionTable.toList, False := by
      obtain ⟨meth9, c9, h1, h2, -, -, -, -, h7, -⟩ := Cond.code_spec B.named (atoms_spec (ws := ws) B.pre _ (by rw [hw]; exact List.mem_cons_self))
      cases Option.some.inj (h1.symm.trans B.method)
      cases Option.some.inj (h2.symm.trans (Stand.of_body B).code)
      intro x hx
      rw [Array.isEmpty_iff.mp h7] at hx
      cases hx
    obtain ⟨t, a1, o, b1, b2, b3⟩ := body p e s m args below meth c s₁ B hml ht hP s₁ hh0 (Stand.of_body B)
    exact ⟨t, o, a1, b1, b2, b3⟩
/-- the table of a body with handlers -/
theorem vx_table {p : Program} {x y : MethodName} {S : Spec} {cc bytes : ByteArray} {maxL maxL' : Nat} {ret ret' : Option FieldType} {e : Env} {s s₁ : State} {m : MethodId} {args : Array Value} {below : List Frame} {meth : Method} {c : Code} {hh : List (Nat × Nat × Nat × Nat)}
    (B : BodyLoose p l y S cc maxL ret e s m args below meth c s₁) (h : (Cond.codeWith y bytes maxL' ret' hh).before args s = true) : c.exceptionTable.toList = tableOf hh := by
  obtain ⟨m9, meth9, c9, hn9, h1, h2, -, -, h6, -⟩ := Cond.codeWith_spec h
  cases Option.some.inj (hn9.symm.trans B.named)
  cases Option.some.inj (h1.symm.trans B.method)
  cases Option.some.inj (h2.symm.trans (Stand.of_body B).code)
  rw [← h6, table_eq]
end Bodies
end VXA
/-! ===== END ===== -/
/-! ===== BEGIN a static call of a method with an exception table ===== -/
section VXS
variable {p : Program} {l : Launch} {e : Env} {R : Room} {s : State} {m : MethodId} {args : Array Value} {below : List Frame} {meth : Method} {c : Code} {T : State} {H : Heap} {locs : List Loc} {cells slots : Nat}
noncomputable abbrev vx_CSW (R : Room) (s : State) (args : Array Value) (own : String) (index : Nat) (y : MethodName) (bytes : ByteArray) (maxL : Nat) (ret : Option FieldType) (hh : List (Nat × Nat × Nat × Nat)) (ws : List Cond) (rm : Room) (mc ms n : Nat) : Prop :=
  (rm.cells = mc ∧ rm.slots = ms ∧ rm.frames + 1 ≤ R.frames ∧ 8 + (maxL + 11) + rm.locals ≤ R.locals ∧ (∀ w ∈ ws, ∀ (a' : Array Value) (U : State), s.WarmedH U.vm → w.before a' U = true) ∧ Cond.codeWith y bytes maxL ret hh ∈ ws) ∧
  (Cond.codeWith y bytes maxL ret hh).before args s = true ∧ (Cond.initialized y.cls).before args s = true ∧ (y.cls ≠ "java/lang/invoke/MethodHandle" ∧ y.cls ≠ "java/lang/invoke/VarHandle") ∧
  (∀ sig, parseMethodDescriptor y.desc = some sig → n = sig.parameters.length) ∧ (Cond.methodLink own index y).before args s = true ∧ (Cond.static y).before args s = true
theorem vx_callSW (X : Stand p l e R s m args below meth c T locs cells slots) (hexec : p.tables.exec = Jvm.exec) {own : String} {index : Nat} {y : MethodName} {bytes : ByteArray} {maxL : Nat} {ret : Option FieldType} {hh : List (Nat × Nat × Nat × Nat)}
    (hown : s.vm.findClass own = some m.cls) (hlink : (Cond.methodLink own index y).before args s = true) (hstat : (Cond.static y).before args s = true) (hinit : (Cond.initialized y.cls).before args s = true)
    (hcode : (Cond.codeWith y bytes maxL ret hh).before args s = true) (hy : y.cls ≠ "java/lang/invoke/MethodHandle" ∧ y.cls ≠ "java/lang/invoke/VarHandle")
    {W9 : Nat} {Pre : Pt → Array Value → Prop} {Post : Pt → Array Value → Option Value → Pt → Prop} (hK : Back l R p e below s args y 3 W9 Pre Post)
    {g : JFrame} (hg : g.method = m) (hsize : g.locals.size = c.maxLocals) {argsL rest : List Value} (hlen : ∀ sig, parseMethodDescriptor y.desc = some sig → argsL.length = sig.parameters.length)
    (hstack : g.stack = argsL.reverse ++ rest) (hW : 2 * g.monitorRoom + (rest.map fun v => v.category).sum ≤ W9) (hdg : decode c.code g.pc = .ok (.invokestatic index, 3))
    (hpre : ∀ vm₁, s.WarmedH vm₁ → Pre ⟨T.setVm vm₁, locs, cells, slots⟩ argsL.toArray) :
    ∃ (v : Option Value) (vm₁ : Vm) (B : Pt), s.WarmedH vm₁ ∧ Stand p l e R s m args below meth c B.U B.locs B.cells B.slots ∧ Post ⟨T.setVm vm₁, locs, cells, slots⟩ argsL.toArray v B ∧
      ∀ target, Steps p.tables e below (B.U.setTop { g with pc := g.pc + 3, stack := v.toList ++ rest }) target → Steps p.tables e below (T.setTop g) target := by
  obtain ⟨mk, methM, cM, hnamed, hmethM, -, -, -, -, -, -, hsigM⟩ := Cond.codeWith_spec hcode
  have hstatic : methM.isStatic = true := Cond.static_spec hnamed hmethM hstat
  obtain ⟨kP, hkP, -⟩ := className_of_methodNamed hnamed
  have hinitP : kP.init = .initialized := Cond.initialized_spec (findClass_of_methodNamed hnamed) hkP hinit
  obtain ⟨vm₁, X₁, hstep₁⟩ := X.invokestatic hexec hown hlink hnamed hmethM hstatic hkP hinitP hy (g := g) hg (argsL := argsL) (rest := rest) (hlen _ hsigM) hstack hdg
  obtain ⟨v, B, X', hpost, hsteps⟩ := hK m meth c ⟨T.setVm vm₁, locs, cells, slots⟩ { g with stack := rest } (.invokestatic index) mk argsL.toArray X₁ hg hsize hdg hW (X₁.named hnamed) (hpre vm₁ X₁.warmed)
  exact ⟨v, vm₁, B, X₁.warmed, X', hpost, fun target h => hstep₁ _ fun acts => by rw [doInvoke_state]; exact hsteps.trans h⟩
theorem vx_runSW {y : MethodName} {bytes cc : ByteArray} {maxL nL mc ms n index : Nat} {ret : Option FieldType} {hh : List (Nat × Nat × Nat × Nat)} {ws : List Cond} {rm : Room} {Pc : Array Value → State → Prop} {Qc : Array Value → State → Outcome → State → Prop} {free : Addr → Prop} {Ts : List Cond} {own : String} {As rest : List Value} {g : JFrame}
    (S : CallFix p m c cc nL s args Ts own) (hM : Met l y ws rm Pc Qc mc ms free) (cw : vx_CSW R s args own index y bytes maxL ret hh ws rm mc ms n) (hp : PreS s H Pc As)
    (hg : g.method = m) (hn : As.length = n) (hsize : g.locals.size = nL) (hstack : g.stack = As.reverse ++ rest) (hW : 2 * g.monitorRoom + (rest.map fun v => v.category).sum ≤ 8) (hdg : decode cc g.pc = .ok (.invokestatic index, 3)) (hf : cells + mc ≤ R.cells ∧ slots + ms ≤ R.slots) :
    va_Run p l e R s m args below meth c H locs cells slots mc ms g rest (Qc As.toArray) (free) := by
  obtain ⟨⟨hrc, hrs, hfr, hlo, hws, hcw⟩, hcode, hini, hy, hlen, hl, hstt⟩ := cw
  have hK : Back l R p e below s args y 3 8 (PreOf R mc ms Pc) (PostOf Qc mc ms free) := va_backW (hh := hh) (bytes := bytes) (maxL := maxL) (ret := ret) hM hp.1 hrc hrs hfr hlo hws hcw (fun a' U hW => word_at hW (Or.inl (by first | rfl | simp [Cond.onTables, Cond.keeps, Cond.steady])) hini)
  obtain ⟨hx, hb, hml, ho, -⟩ := S
  intro T hT X
  obtain ⟨v, vm₁, ⟨U', l2, c2, s2⟩, hW₁, X', ⟨g', mk, t, L, e1, e2, hq, h1, hL, h2, h3⟩, st⟩ := vx_callSW X hx (hh := hh) (bytes := bytes) (maxL := maxL) (ret := ret) ho hl hstt hini hcode hy hK hg (hsize.trans hml.symm) (argsL := As) (rest := rest) (fun sig h => hn.trans (hlen sig h)) hstack hW (by rw [hb]; exact hdg)
    (fun vm₁ hW₁ => ⟨hf.1, hf.2, hp.2 (T.setVm vm₁) hT hW₁⟩)
  dsimp only [Pt.U, Pt.locs, Pt.cells, Pt.slots] at X' e1 e2 h1 h2 h3 st
  subst h1; subst h2; subst h3
  exact ⟨v, (T.setVm vm₁).calling g' mk As.toArray, t, U', L, hT, X', hL, e1, e2, hq, st⟩
/-- not caught here, past rows that name other classes: it goes on to the caller -/
theorem vx_outP {p : Program} {l : Launch} {e : Env} {R : Room} {s : State} {m : MethodId} {args : Array Value} {below : List Frame} {meth : Method} {c : Code} {H : Heap} {locs : List Loc} {cells slots : Nat} {free : Addr → Prop} {ls : Array Slot} {rest : List Value} {Qc : Array Value → State → Outcome → State → Prop} {XC : String → State → State → Prop}
    {pc : Nat} {own E : String} {ce : Cell} {q : Addr} {mc ms : Nat} (hown : s.vm.findClass own = some m.cls) (hlocks : meth.locks = false)
    (hpass : ∀ z ∈ c.exceptionTable.toList, covers z pc = false ∨ (z.catchType ≠ 0 ∧ ∃ nm : String, (Cond.classLink own z.catchType nm).before args s = true ∧ va_Nc E nm s)) (hcell : H[q]? = some ce) (hv : ce.vm = .none) (hcl : s.vm.findClass E = some ce.cls)
    (hx : ∀ t : State, t.heap = H → s.vm.Alike t.vm → XC E s t) (hf : ∀ z ∈ locs, free z.base) (hc : cells ≤ mc) (hs : slots ≤ ms) :
    vx_W p l e R s m args below meth c H locs cells slots (vx_MQ below Qc XC args s mc ms free) (F0 m pc ls rest) q := by
  intro T hT X
  have hpl : e.platform.magicAccessors = ({} : Platform).magicAccessors := by rw [X.admits.platform]
  obtain ⟨vm', hW', X', st⟩ := Jvm.Stand.outThrough X hlocks q (g := F0 m pc ls rest) rfl rfl rfl (cell := ce) (by rw [hT]; exact hcell) (by rw [hv]; rfl)
    (by obtain ⟨k9, h9, -⟩ := Vm.findClass_spec hcl; exact ⟨k9, h9⟩) (fun z hz => by
      rcases hpass z hz with h | ⟨hz0, nm, hl1, hn1⟩
      · exact Or.inl h
      · obtain ⟨c6, hc6, hcl6⟩ := Cond.classLink_spec hown hl1 e.platform hpl
        obtain ⟨a8, b8, h1, h2, h3⟩ := hn1
        cases Option.some.inj (h1.symm.trans hcl)
        cases Option.some.inj (h2.symm.trans hc6)
        exact Or.inr ⟨hz0, _, hcl6, h3⟩)
  obtain ⟨g₀, hfr⟩ := X'.frames_eq
  have hcell9 : ((T.setVm vm').setFrames (.throwing q :: below)).heap[q]? = some ce := by
    show T.heap[q]? = some ce
    rw [hT]; exact hcell
  have hend : Ended ((T.setVm vm').setFrames (.throwing q :: below)) below (.threw q) := State.frames_setFrames _ (State.cur_lt_of_frames hfr)
  refine ⟨(T.setVm vm').setFrames (.throwing q :: below), ?_, .threw q, X'.here.running, hend, Or.inr ⟨q, rfl, E, ce, locs, hx _ hT (X'.ends _).1.alike, hcell9, hv, hcl, (X'.ends _).1, (X'.ends _).2.mono hc hs, hf⟩⟩
  rw [X.pushThrowing_eq]
  exact st
end VXS
/-! ===== END ===== -/
/-! ===== BEGIN methods with a table of their own: called by a name, returning or throwing ===== -/
section VXH
/-! vx_backW, vx_callVX, vx_callSX, vx_callVW, vx_runVW, vx_runVX, vx_runSX, vx_ofWH follow the same proofs as their sisters above (Free/Laws.lean, Shelf42/LK1.lean); vx_outP calls Shelf42/NT130.lean (outThrough). -/
section
variable {l : Launch} {R : Room} {p : Program} {e : Env} {below : List Frame} {s : State} {sargs : Array Value} {y : MethodName} {len W9 : Nat}
theorem vx_backW {ws : List Cond} {rm : Room} {Pc : Array Value → State → Prop} {Qc : Array Value → State → Outcome → State → Prop} {XC : String → State → State → Prop} {mc ms : Nat} {free : Addr → Prop} {bytes : ByteArray} {maxL : Nat} {ret : Option FieldType} {hh : List (Nat × Nat × Nat × Nat)}
    (hM : vx_Met l y ws rm Pc Qc XC mc ms free) (hblind : FrameBlind Pc) (hrc : rm.cells = mc) (hrs : rm.slots = ms)
    (hframes : rm.frames + 1 ≤ R.frames) (hlocals : W9 + (maxL + 11) + rm.locals ≤ R.locals)
    (hws : ∀ w ∈ ws, ∀ a' U, s.WarmedH U.vm → w.before a' U = true) (hcode : Cond.codeWith y bytes maxL ret hh ∈ ws) (hinit : ∀ a' U, s.WarmedH U.vm → (Cond.initialized y.cls).before a' U = true) :
    vx_Back l R p e below s sargs y len W9 (PreOf R mc ms Pc) (PostOf Qc mc ms free) (vx_Post XC mc ms free) := by
  intro m meth c A g ig mk a X hg hsize hdg hW hn hp
  have h1 : (headSpec ws rm).pre.before a A.U = true := atoms_intro fun w hw => hws w hw _ _ X.warmed
  have h2 : (Cond.codeWith y bytes maxL ret hh).before a A.U = true := hws _ hcode _ _ X.warmed
  have h3 : (Cond.initialized y.cls).before a A.U = true := hinit _ _ X.warmed
  have h4 : A.cells + (headSpec ws rm).room.cells ≤ R.cells := by rw [show (headSpec ws rm).room.cells = mc from hrc]; exact hp.1
  have h5 : A.slots + (headSpec ws rm).room.slots ≤ R.slots := by rw [show (headSpec ws rm).room.slots = ms from hrs]; exact hp.2.1
  have hPc : Pc a (A.U.calling g mk a) := hblind _ _ _ _ hp.2.2
  obtain ⟨U, Ls, c0, s0⟩ := A
  dsimp only [Pt.U, Pt.locs, Pt.cells, Pt.slots] at h1 h2 h3 h4 h5 X hn hPc ⊢
  obtain ⟨m9, methY, cY, hn9, hmY, hcY, -, hlY, -⟩ := Cond.codeWith_spec h2
  cases Option.some.inj (hn9.symm.trans hn)
  obtain ⟨kY, hkY, -⟩ := className_of_methodNamed hn
  have hinitY : kY.init = .initialized := Cond.initialized_spec (findClass_of_methodNamed hn) hkY h3
  have h : At U g.method c below := by rw [hg]; exact X.here
  have hlocals9 : W9 + (maxL + 11) + (headSpec ws rm).room.locals ≤ R.locals := hlocals
  have happ : (headSpec ws rm).appliesLoose y e.platform (U.calling g mk a) = true :=
    Spec.appliesLoose_calling (g := g) h hdg hn hkY hinitY
      (X.room_calling (g := g) (R' := (headSpec ws rm).room) hsize hmY hcY hframes (by rw [hlY]; omega) h4 h5) h1
  obtain ⟨mid, hmid⟩ := h.above
  have hfr : (U.setTop g).frames = (.java g :: mid) ++ below := by rw [State.frames_setTop' g h.top, hmid]; rfl
  obtain ⟨o, s₂, hsteps, -, hend, hq⟩ := Steps.callFree hM p X.admits X.cas X.clock (acts := []) hfr happ hPc trivial
  have hq' : vx_Q Qc XC mc ms free a (U.calling g mk a) o s₂ := hq
  rw [State.frames_setTop' g h.top] at hend
  obtain ⟨g₀, hg0⟩ := Option.isSome_iff_exists.mp h.top
  obtain ⟨r, hr⟩ := State.topJava?_eq_some.mp hg0
  have hr' : (({ U with heap := s₂.heap, slotsUsed := s₂.slotsUsed } : State).setVm s₂.vm).frames = .java g₀ :: r := hr
  rcases hq' with ⟨hqc, L, hfe, hL⟩ | ⟨q, rfl, E, ce, L, hx, hce, hcv, hcl, hW₂, hsm, hL⟩
  · obtain ⟨⟨v, rfl⟩, hW₂, e2, q2, q3, q4, q5, q6⟩ := id hfe
    have e3 : s₂ = ({ (U.calling g mk a).setFrames s₂.frames with heap := s₂.heap, slotsUsed := s₂.slotsUsed } : State).setVm s₂.vm := by
      have : s₂ = ({ s₂ with vm := (U.calling g mk a).vm } : State).setVm s₂.vm := rfl
      rw [e2] at this
      exact this
    obtain ⟨c₂, i₂, len₂, hc₂, hd₂, hf₂⟩ := hend
    have hW' : U.WarmedH s₂.vm := hW₂
    have hcc : c₂ = c := by
      have h1 : s₂.code? g.method = U.code? g.method := by
        rw [State.code?_eq, State.code?_eq, hW'.alike.method?]
      exact Option.some.inj (hc₂.symm.trans (h1.trans h.code))
    subst hcc
    have hlen : len₂ = len := by rw [hdg] at hd₂; cases hd₂; rfl
    subst hlen
    have hs₂ : s₂ = (({ U with heap := s₂.heap, slotsUsed := s₂.slotsUsed } : State).setVm s₂.vm).setTop { g with pc := g.pc + len₂, stack := v.toList ++ g.stack } := by
      refine e3.trans ?_
      rw [hf₂, State.calling_eq h.top, State.setFrames_setFrames, State.setTop_of_frames _ hr', hr]
      rfl
    have hsame : U.sameButNew ({ U with heap := s₂.heap, slotsUsed := s₂.slotsUsed } : State) L mc ms := by
      refine ⟨?_, q2, q3, q4, q5, q6⟩
      obtain ⟨t, ht, -⟩ := State.frames_cons hr
      show ({ U with heap := s₂.heap, slotsUsed := s₂.slotsUsed } : State) = { U.setFrames U.frames with heap := s₂.heap, slotsUsed := s₂.slotsUsed }
      rw [State.setFrames_self ht]
    subst hg
    refine Or.inl ⟨v, ⟨(({ U with heap := s₂.heap, slotsUsed := s₂.slotsUsed } : State).setVm s₂.vm), Ls ++ L, c0 + mc, s0 + ms⟩,
      ⟨X.admits, X.cas, X.clock, X.frames, X.room, X.hears, X.method, X.code, (X.here.setHeapUsed s₂.heap s₂.slotsUsed).setVm hW'.alike, X.tail, State.WarmedH.trans X.warmed hW', X.limits, X.bytes, X.same.trans (hsame.setVm s.vm)⟩,
      ⟨g, mk, s₂, L, rfl, rfl, hqc, rfl, hL, rfl, rfl⟩, ?_⟩
    show Steps p.tables e below _ ((({ U with heap := s₂.heap, slotsUsed := s₂.slotsUsed } : State).setVm s₂.vm).setTop { g with pc := g.pc + len₂, stack := v.toList ++ g.stack })
    rw [← hs₂]
    exact hsteps
  · obtain ⟨e2, q2, q3, q4, q5, q6⟩ := id hsm
    have e3 : s₂ = ({ (U.calling g mk a).setFrames s₂.frames with heap := s₂.heap, slotsUsed := s₂.slotsUsed } : State).setVm s₂.vm := by
      have : s₂ = ({ s₂ with vm := (U.calling g mk a).vm } : State).setVm s₂.vm := rfl
      rw [e2] at this
      exact this
    have hf₂ : s₂.frames = .throwing q :: .java g :: U.frames.tail := hend
    have hW' : U.WarmedH s₂.vm := hW₂
    have hs₂ : s₂ = ((({ U with heap := s₂.heap, slotsUsed := s₂.slotsUsed } : State).setVm s₂.vm).setTop g).pushFrame (.throwing q) := by
      refine e3.trans ?_
      rw [hf₂, State.calling_eq h.top, State.setFrames_setFrames, State.pushFrame, State.frames_setTop _ hr', State.setTop_of_frames _ hr', State.setFrames_setFrames, hr]
      rfl
    have hsame : U.sameButNew ({ U with heap := s₂.heap, slotsUsed := s₂.slotsUsed } : State) L mc ms := by
      refine ⟨?_, q2, q3, q4, q5, q6⟩
      obtain ⟨t, ht, -⟩ := State.frames_cons hr
      show ({ U with heap := s₂.heap, slotsUsed := s₂.slotsUsed } : State) = { U.setFrames U.frames with heap := s₂.heap, slotsUsed := s₂.slotsUsed }
      rw [State.setFrames_self ht]
    subst hg
    refine Or.inr ⟨q, ⟨(({ U with heap := s₂.heap, slotsUsed := s₂.slotsUsed } : State).setVm s₂.vm), Ls ++ L, c0 + mc, s0 + ms⟩,
      ⟨X.admits, X.cas, X.clock, X.frames, X.room, X.hears, X.method, X.code, (X.here.setHeapUsed s₂.heap s₂.slotsUsed).setVm hW'.alike, X.tail, State.WarmedH.trans X.warmed hW', X.limits, X.bytes, X.same.trans (hsame.setVm s.vm)⟩,
      ⟨g, mk, s₂, L, E, ce, rfl, rfl, hx, hce, hcv, hcl, rfl, hL, rfl, rfl⟩, ?_⟩
    show Steps p.tables e below _ (((({ U with heap := s₂.heap, slotsUsed := s₂.slotsUsed } : State).setVm s₂.vm).setTop g).pushFrame (.throwing q))
    rw [← hs₂]
    exact hsteps
end
variable {p : Program} {l : Launch} {e : Env} {R : Room} {s : State} {m : MethodId} {args : Array Value} {below : List Frame} {meth : Method} {c : Code} {T : State} {H : Heap} {locs : List Loc} {cells slots : Nat}
theorem vx_callVX (X : Stand p l e R s m args below meth c T locs cells slots) (hexec : p.tables.exec = Jvm.exec) {own C : String} {index : Nat} {y : MethodName} {bytes : ByteArray} {maxL : Nat} {ret : Option FieldType} {hh : List (Nat × Nat × Nat × Nat)}
    (hown : s.vm.findClass own = some m.cls) (hlink : (Cond.methodLink own index y).before args s = true) (hinst : (Cond.instanceMethod y).before args s = true) (hsel : (Cond.selects C y y).before args s = true)
    (hcode : (Cond.codeWith y bytes maxL ret hh).before args s = true) (hy : y.cls ≠ "java/lang/invoke/MethodHandle" ∧ y.cls ≠ "java/lang/invoke/VarHandle")
    {W9 : Nat} {Pre : Pt → Array Value → Prop} {Post : Pt → Array Value → Option Value → Pt → Prop} {PostX : Pt → Array Value → Addr → Pt → Prop} (hK : vx_Back l R p e below s args y 3 W9 Pre Post PostX)
    {b : Addr} {cellB : Cell} (hcell : T.heap[b]? = some cellB) (hobj : cellB.vm.isStatics = false) (hcls : s.vm.findClass C = some cellB.cls)
    {g : JFrame} (hg : g.method = m) (hsize : g.locals.size = c.maxLocals) {argsL rest : List Value} (hlen : ∀ sig, parseMethodDescriptor y.desc = some sig → argsL.length = sig.parameters.length)
    (hstack : g.stack = argsL.reverse ++ .ref b :: rest) (hW : 2 * g.monitorRoom + (rest.map fun v => v.category).sum ≤ W9) (hdg : decode c.code g.pc = .ok (.invokevirtual index, 3))
    (hpre : ∀ vm₁, s.WarmedH vm₁ → Pre ⟨T.setVm vm₁, locs, cells, slots⟩ (Value.ref b :: argsL).toArray) :
    (∃ (v : Option Value) (vm₁ : Vm) (B : Pt), s.WarmedH vm₁ ∧ Stand p l e R s m args below meth c B.U B.locs B.cells B.slots ∧ Post ⟨T.setVm vm₁, locs, cells, slots⟩ (Value.ref b :: argsL).toArray v B ∧
      ∀ target, Steps p.tables e below (B.U.setTop { g with pc := g.pc + 3, stack := v.toList ++ rest }) target → Steps p.tables e below (T.setTop g) target) ∨
    (∃ (q : Addr) (vm₁ : Vm) (B : Pt), s.WarmedH vm₁ ∧ Stand p l e R s m args below meth c B.U B.locs B.cells B.slots ∧ PostX ⟨T.setVm vm₁, locs, cells, slots⟩ (Value.ref b :: argsL).toArray q B ∧
      Steps p.tables e below (T.setTop g) ((B.U.setTop { g with stack := rest }).pushFrame (.throwing q))) := by
  obtain ⟨mk, methM, hnamed, hmethM, hstM, habM⟩ := Cond.instanceMethod_spec hinst
  obtain ⟨m8, methM', cM, hn8, hmethM', -, -, -, -, -, -, hsigM⟩ := Cond.codeWith_spec hcode
  cases Option.some.inj (hn8.symm.trans hnamed)
  cases hmethM.symm.trans hmethM'
  obtain ⟨c2, r2, m2, q1, q2, q3, q4, kP, hkP, hkPi⟩ := Cond.selects_spec hsel
  cases hcls.symm.trans q1
  cases (State.methodFound?_of_named hnamed hy).symm.trans q2
  cases hnamed.symm.trans q3
  have hselP : selectMethod e.platform s.vm cellB.cls mk = .method mk := by rw [Launch.admits_selectMethod X.admits]; exact q4
  obtain ⟨vm₁, X₁, hstep₁⟩ := X.invokevirtual hexec hown hlink hnamed hmethM hstM hkP hkPi hy (a := b) (cell := cellB) hcell
    (fun z h => by rw [h] at hobj; cases hobj) hselP hmethM habM hkP hkPi (g := g) hg (argsL := argsL) (rest := rest) (hlen _ hsigM) hstack hdg
  rcases hK m meth c ⟨T.setVm vm₁, locs, cells, slots⟩ { g with stack := rest } (.invokevirtual index) mk (Value.ref b :: argsL).toArray X₁ hg hsize hdg hW (X₁.named hnamed) (hpre vm₁ X₁.warmed) with ⟨v, B, X', hpost, hsteps⟩ | ⟨q, B, X', hpost, hsteps⟩
  · exact Or.inl ⟨v, vm₁, B, X₁.warmed, X', hpost, fun target h => hstep₁ _ fun acts => by rw [doInvoke_state]; exact hsteps.trans h⟩
  · exact Or.inr ⟨q, vm₁, B, X₁.warmed, X', hpost, hstep₁ _ fun acts => by rw [doInvoke_state]; exact hsteps⟩
theorem vx_callSX (X : Stand p l e R s m args below meth c T locs cells slots) (hexec : p.tables.exec = Jvm.exec) {own : String} {index : Nat} {y : MethodName} {bytes : ByteArray} {maxL : Nat} {ret : Option FieldType} {hh : List (Nat × Nat × Nat × Nat)}
    (hown : s.vm.findClass own = some m.cls) (hlink : (Cond.methodLink own index y).before args s = true) (hstat : (Cond.static y).before args s = true) (hinit : (Cond.initialized y.cls).before args s = true)
    (hcode : (Cond.codeWith y bytes maxL ret hh).before args s = true) (hy : y.cls ≠ "java/lang/invoke/MethodHandle" ∧ y.cls ≠ "java/lang/invoke/VarHandle")
    {W9 : Nat} {Pre : Pt → Array Value → Prop} {Post : Pt → Array Value → Option Value → Pt → Prop} {PostX : Pt → Array Value → Addr → Pt → Prop} (hK : vx_Back l R p e below s args y 3 W9 Pre Post PostX)
    {g : JFrame} (hg : g.method = m) (hsize : g.locals.size = c.maxLocals) {argsL rest : List Value} (hlen : ∀ sig, parseMethodDescriptor y.desc = some sig → argsL.length = sig.parameters.length)
    (hstack : g.stack = argsL.reverse ++ rest) (hW : 2 * g.monitorRoom + (rest.map fun v => v.category).sum ≤ W9) (hdg : decode c.code g.pc = .ok (.invokestatic index, 3))
    (hpre : ∀ vm₁, s.WarmedH vm₁ → Pre ⟨T.setVm vm₁, locs, cells, slots⟩ argsL.toArray) :
    (∃ (v : Option Value) (vm₁ : Vm) (B : Pt), s.WarmedH vm₁ ∧ Stand p l e R s m args below meth c B.U B.locs B.cells B.slots ∧ Post ⟨T.setVm vm₁, locs, cells, slots⟩ argsL.toArray v B ∧
      ∀ target, Steps p.tables e below (B.U.setTop { g with pc := g.pc + 3, stack := v.toList ++ rest }) target → Steps p.tables e below (T.setTop g) target) ∨
    (∃ (q : Addr) (vm₁ : Vm) (B : Pt), s.WarmedH vm₁ ∧ Stand p l e R s m args below meth c B.U B.locs B.cells B.slots ∧ PostX ⟨T.setVm vm₁, locs, cells, slots⟩ argsL.toArray q B ∧
      Steps p.tables e below (T.setTop g) ((B.U.setTop { g with stack := rest }).pushFrame (.throwing q))) := by
  obtain ⟨mk, methM, cM, hnamed, hmethM, -, -, -, -, -, -, hsigM⟩ := Cond.codeWith_spec hcode
  have hstatic : methM.isStatic = true := Cond.static_spec hnamed hmethM hstat
  obtain ⟨kP, hkP, -⟩ := className_of_methodNamed hnamed
  have hinitP : kP.init = .initialized := Cond.initialized_spec (findClass_of_methodNamed hnamed) hkP hinit
  obtain ⟨vm₁, X₁, hstep₁⟩ := X.invokestatic hexec hown hlink hnamed hmethM hstatic hkP hinitP hy (g := g) hg (argsL := argsL) (rest := rest) (hlen _ hsigM) hstack hdg
  rcases hK m meth c ⟨T.setVm vm₁, locs, cells, slots⟩ { g with stack := rest } (.invokestatic index) mk argsL.toArray X₁ hg hsize hdg hW (X₁.named hnamed) (hpre vm₁ X₁.warmed) with ⟨v, B, X', hpost, hsteps⟩ | ⟨q, B, X', hpost, hsteps⟩
  · exact Or.inl ⟨v, vm₁, B, X₁.warmed, X', hpost, fun target h => hstep₁ _ fun acts => by rw [doInvoke_state]; exact hsteps.trans h⟩
  · exact Or.inr ⟨q, vm₁, B, X₁.warmed, X', hpost, hstep₁ _ fun acts => by rw [doInvoke_state]; exact hsteps⟩
theorem vx_callVW (X : Stand p l e R s m args below meth c T locs cells slots) (hexec : p.tables.exec = Jvm.exec) {own C : String} {index : Nat} {y : MethodName} {bytes : ByteArray} {maxL : Nat} {ret : Option FieldType} {hh : List (Nat × Nat × Nat × Nat)}
    (hown : s.vm.findClass own = some m.cls) (hlink : (Cond.methodLink own index y).before args s = true) (hinst : (Cond.instanceMethod y).before args s = true) (hsel : (Cond.selects C y y).before args s = true)
    (hcode : (Cond.codeWith y bytes maxL ret hh).before args s = true) (hy : y.cls ≠ "java/lang/invoke/MethodHandle" ∧ y.cls ≠ "java/lang/invoke/VarHandle")
    {W9 : Nat} {Pre : Pt → Array Value → Prop} {Post : Pt → Array Value → Option Value → Pt → Prop} (hK : Back l R p e below s args y 3 W9 Pre Post)
    {b : Addr} {cellB : Cell} (hcell : T.heap[b]? = some cellB) (hobj : cellB.vm.isStatics = false) (hcls : s.vm.findClass C = some cellB.cls)
    {g : JFrame} (hg : g.method = m) (hsize : g.locals.size = c.maxLocals) {argsL rest : List Value} (hlen : ∀ sig, parseMethodDescriptor y.desc = some sig → argsL.length = sig.parameters.length)
    (hstack : g.stack = argsL.reverse ++ .ref b :: rest) (hW : 2 * g.monitorRoom + (rest.map fun v => v.category).sum ≤ W9) (hdg : decode c.code g.pc = .ok (.invokevirtual index, 3))
    (hpre : ∀ vm₁, s.WarmedH vm₁ → Pre ⟨T.setVm vm₁, locs, cells, slots⟩ (Value.ref b :: argsL).toArray) :
    ∃ (v : Option Value) (vm₁ : Vm) (B : Pt), s.WarmedH vm₁ ∧ Stand p l e R s m args below meth c B.U B.locs B.cells B.slots ∧ Post ⟨T.setVm vm₁, locs, cells, slots⟩ (Value.ref b :: argsL).toArray v B ∧
      ∀ target, Steps p.tables e below (B.U.setTop { g with pc := g.pc + 3, stack := v.toList ++ rest }) target → Steps p.tables e below (T.setTop g) target := by
  obtain ⟨mk, methM, hnamed, hmethM, hstM, habM⟩ := Cond.instanceMethod_spec hinst
  obtain ⟨m8, methM', cM, hn8, hmethM', -, -, -, -, -, -, hsigM⟩ := Cond.codeWith_spec hcode
  cases Option.some.inj (hn8.symm.trans hnamed)
  cases hmethM.symm.trans hmethM'
  obtain ⟨c2, r2, m2, q1, q2, q3, q4, kP, hkP, hkPi⟩ := Cond.selects_spec hsel
  cases hcls.symm.trans q1
  cases (State.methodFound?_of_named hnamed hy).symm.trans q2
  cases hnamed.symm.trans q3
  have hselP : selectMethod e.platform s.vm cellB.cls mk = .method mk := by rw [Launch.admits_selectMethod X.admits]; exact q4
  obtain ⟨vm₁, X₁, hstep₁⟩ := X.invokevirtual hexec hown hlink hnamed hmethM hstM hkP hkPi hy (a := b) (cell := cellB) hcell
    (fun z h => by rw [h] at hobj; cases hobj) hselP hmethM habM hkP hkPi (g := g) hg (argsL := argsL) (rest := rest) (hlen _ hsigM) hstack hdg
  obtain ⟨v, B, X', hpost, hsteps⟩ := hK m meth c ⟨T.setVm vm₁, locs, cells, slots⟩ { g with stack := rest } (.invokevirtual index) mk (Value.ref b :: argsL).toArray X₁ hg hsize hdg hW (X₁.named hnamed) (hpre vm₁ X₁.warmed)
  exact ⟨v, vm₁, B, X₁.warmed, X', hpost, fun target h => hstep₁ _ fun acts => by rw [doInvoke_state]; exact hsteps.trans h⟩
noncomputable abbrev vx_CVW (R : Room) (s : State) (args : Array Value) (own C : String) (index : Nat) (y : MethodName) (bytes : ByteArray) (maxL : Nat) (ret : Option FieldType) (hh : List (Nat × Nat × Nat × Nat)) (ws : List Cond) (rm : Room) (mc ms n : Nat) : Prop :=
  (rm.cells = mc ∧ rm.slots = ms ∧ rm.frames + 1 ≤ R.frames ∧ 8 + (maxL + 11) + rm.locals ≤ R.locals ∧ (∀ w ∈ ws, ∀ (a' : Array Value) (U : State), s.WarmedH U.vm → w.before a' U = true) ∧ Cond.codeWith y bytes maxL ret hh ∈ ws) ∧
  (Cond.codeWith y bytes maxL ret hh).before args s = true ∧ (Cond.initialized y.cls).before args s = true ∧ (y.cls ≠ "java/lang/invoke/MethodHandle" ∧ y.cls ≠ "java/lang/invoke/VarHandle") ∧
  (∀ sig, parseMethodDescriptor y.desc = some sig → n = sig.parameters.length) ∧ (Cond.methodLink own index y).before args s = true ∧ (Cond.instanceMethod y).before args s = true ∧ (Cond.selects C y y).before args s = true
theorem vx_runVW {y : MethodName} {bytes cc : ByteArray} {maxL nL mc ms n index : Nat} {ret : Option FieldType} {hh : List (Nat × Nat × Nat × Nat)} {ws : List Cond} {rm : Room} {Pc : Array Value → State → Prop} {Qc : Array Value → State → Outcome → State → Prop} {free : Addr → Prop} {Ts : List Cond} {own C : String} {b : Addr} {As rest : List Value} {g : JFrame}
    (S : CallFix p m c cc nL s args Ts own) (hM : Met l y ws rm Pc Qc mc ms free) (cw : vx_CVW R s args own C index y bytes maxL ret hh ws rm mc ms n) (hp : PreV s H C b Pc As)
    (hg : g.method = m) (hn : As.length = n) (hsize : g.locals.size = nL) (hstack : g.stack = As.reverse ++ .ref b :: rest) (hW : 2 * g.monitorRoom + (rest.map fun v => v.category).sum ≤ 8) (hdg : decode cc g.pc = .ok (.invokevirtual index, 3)) (hf : cells + mc ≤ R.cells ∧ slots + ms ≤ R.slots) :
    va_Run p l e R s m args below meth c H locs cells slots mc ms g rest (Qc (Value.ref b :: As).toArray) free := by
  obtain ⟨⟨hrc, hrs, hfr, hlo, hws, hcw⟩, hcode, hini, hy, hlen, hl, hin, hse⟩ := cw
  have hK : Back l R p e below s args y 3 8 (PreOf R mc ms Pc) (PostOf Qc mc ms free) := va_backW (hh := hh) (bytes := bytes) (maxL := maxL) (ret := ret) hM hp.1 hrc hrs hfr hlo hws hcw (fun a' U hW => word_at hW (Or.inl (by first | rfl | simp [Cond.onTables, Cond.keeps, Cond.steady])) hini)
  obtain ⟨hx, hb, hml, ho, -⟩ := S
  obtain ⟨-, ⟨cellB, hcB, hoB, hclB⟩, hPc⟩ := hp
  intro T hT X
  obtain ⟨v, vm₁, ⟨U', l2, c2, s2⟩, hW₁, X', ⟨g', mk, t, L, e1, e2, hq, h1, hL, h2, h3⟩, st⟩ := vx_callVW X hx (C := C) (hh := hh) (bytes := bytes) (maxL := maxL) (ret := ret) ho hl hin hse hcode hy hK (by rw [hT]; exact hcB) hoB hclB hg (hsize.trans hml.symm) (argsL := As) (rest := rest) (fun sig h => hn.trans (hlen sig h)) hstack hW (by rw [hb]; exact hdg)
    (fun vm₁ hW₁ => ⟨hf.1, hf.2, hPc (T.setVm vm₁) hT hW₁⟩)
  dsimp only [Pt.U, Pt.locs, Pt.cells, Pt.slots] at X' e1 e2 h1 h2 h3 st
  subst h1; subst h2; subst h3
  exact ⟨v, (T.setVm vm₁).calling g' mk (Value.ref b :: As).toArray, t, U', L, hT, X', hL, e1, e2, hq, st⟩
section
variable {y : MethodName} {bytes cc : ByteArray} {maxL nL mc ms n index : Nat} {ret : Option FieldType} {ws : List Cond} {rm : Room} {Pc : Array Value → State → Prop} {Qc : Array Value → State → Outcome → State → Prop} {XC : String → State → State → Prop} {free : Addr → Prop} {Ts : List Cond} {own C : String} {b : Addr} {As rest : List Value} {g : JFrame}
theorem vx_runVX {hh : List (Nat × Nat × Nat × Nat)} (S : CallFix p m c cc nL s args Ts own) (hM : vx_Met l y ws rm Pc Qc XC mc ms free) (cw : vx_CVW R s args own C index y bytes maxL ret hh ws rm mc ms n) (hp : PreV s H C b Pc As)
    (hg : g.method = m) (hn : As.length = n) (hsize : g.locals.size = nL) (hstack : g.stack = As.reverse ++ .ref b :: rest) (hW : 2 * g.monitorRoom + (rest.map fun v => v.category).sum ≤ 8) (hdg : decode cc g.pc = .ok (.invokevirtual index, 3)) (hf : cells + mc ≤ R.cells ∧ slots + ms ≤ R.slots) :
    vx_Run p l e R s m args below meth c H locs cells slots mc ms g rest (Qc (Value.ref b :: As).toArray) XC free := by
  obtain ⟨⟨hrc, hrs, hfr, hlo, hws, hcw⟩, hcode, hini, hy, hlen, hl, hin, hse⟩ := cw
  have hK : vx_Back l R p e below s args y 3 8 (PreOf R mc ms Pc) (PostOf Qc mc ms free) (vx_Post XC mc ms free) := vx_backW (hh := hh) (bytes := bytes) (maxL := maxL) (ret := ret) hM hp.1 hrc hrs hfr hlo hws hcw (fun a' U hW => word_at hW (Or.inl (by first | rfl | simp [Cond.onTables, Cond.keeps, Cond.steady])) hini)
  obtain ⟨hx, hb, hml, ho, -⟩ := S
  obtain ⟨-, ⟨cellB, hcB, hoB, hclB⟩, hPc⟩ := hp
  intro T hT X
  rcases vx_callVX X hx (C := C) (hh := hh) (bytes := bytes) (maxL := maxL) (ret := ret) ho hl hin hse hcode hy hK (by rw [hT]; exact hcB) hoB hclB hg (hsize.trans hml.symm) (argsL := As) (rest := rest) (fun sig h => hn.trans (hlen sig h)) hstack hW (by rw [hb]; exact hdg)
    (fun vm₁ hW₁ => ⟨hf.1, hf.2, hPc (T.setVm vm₁) hT hW₁⟩) with ⟨v, vm₁, ⟨U', l2, c2, s2⟩, hW₁, X', ⟨g', mk, t, L, e1, e2, hq, h1, hL, h2, h3⟩, st⟩ | ⟨q, vm₁, ⟨U', l2, c2, s2⟩, hW₁, X', ⟨g', mk, t, L, E, ce, e1, e2, hq, hce, hcv, hcl, h1, hL, h2, h3⟩, st⟩
  · dsimp only [Pt.U, Pt.locs, Pt.cells, Pt.slots] at X' e1 e2 h1 h2 h3 st
    subst h1; subst h2; subst h3
    exact Or.inl ⟨v, (T.setVm vm₁).calling g' mk (Value.ref b :: As).toArray, t, U', L, hT, X', hL, e1, e2, hq, st⟩
  · dsimp only [Pt.U, Pt.locs, Pt.cells, Pt.slots] at X' e1 e2 h1 h2 h3 st hcl
    subst h1; subst h2; subst h3
    exact Or.inr ⟨q, (T.setVm vm₁).calling g' mk (Value.ref b :: As).toArray, t, U', L, E, ce, hT, X', hL, e1, e2, hq, hce, hcv, vx_cls hW₁ hcl, st⟩
theorem vx_runSX {hh : List (Nat × Nat × Nat × Nat)} (S : CallFix p m c cc nL s args Ts own) (hM : vx_Met l y ws rm Pc Qc XC mc ms free) (cw : vx_CSW R s args own index y bytes maxL ret hh ws rm mc ms n) (hp : PreS s H Pc As)
    (hg : g.method = m) (hn : As.length = n) (hsize : g.locals.size = nL) (hstack : g.stack = As.reverse ++ rest) (hW : 2 * g.monitorRoom + (rest.map fun v => v.category).sum ≤ 8) (hdg : decode cc g.pc = .ok (.invokestatic index, 3)) (hf : cells + mc ≤ R.cells ∧ slots + ms ≤ R.slots) :
    vx_Run p l e R s m args below meth c H locs cells slots mc ms g rest (Qc As.toArray) XC free := by
  obtain ⟨⟨hrc, hrs, hfr, hlo, hws, hcw⟩, hcode, hini, hy, hlen, hl, hstt⟩ := cw
  have hK : vx_Back l R p e below s args y 3 8 (PreOf R mc ms Pc) (PostOf Qc mc ms free) (vx_Post XC mc ms free) := vx_backW (hh := hh) (bytes := bytes) (maxL := maxL) (ret := ret) hM hp.1 hrc hrs hfr hlo hws hcw (fun a' U hW => word_at hW (Or.inl (by first | rfl | simp [Cond.onTables, Cond.keeps, Cond.steady])) hini)
  obtain ⟨hx, hb, hml, ho, -⟩ := S
  intro T hT X
  rcases vx_callSX X hx (hh := hh) (bytes := bytes) (maxL := maxL) (ret := ret) ho hl hstt hini hcode hy hK hg (hsize.trans hml.symm) (argsL := As) (rest := rest) (fun sig h => hn.trans (hlen sig h)) hstack hW (by rw [hb]; exact hdg)
    (fun vm₁ hW₁ => ⟨hf.1, hf.2, hp.2 (T.setVm vm₁) hT hW₁⟩) with ⟨v, vm₁, ⟨U', l2, c2, s2⟩, hW₁, X', ⟨g', mk, t, L, e1, e2, hq, h1, hL, h2, h3⟩, st⟩ | ⟨q, vm₁, ⟨U', l2, c2, s2⟩, hW₁, X', ⟨g', mk, t, L, E, ce, e1, e2, hq, hce, hcv, hcl, h1, hL, h2, h3⟩, st⟩
  · dsimp only [Pt.U, Pt.locs, Pt.cells, Pt.slots] at X' e1 e2 h1 h2 h3 st
    subst h1; subst h2; subst h3
    exact Or.inl ⟨v, (T.setVm vm₁).calling g' mk As.toArray, t, U', L, hT, X', hL, e1, e2, hq, st⟩
  · dsimp only [Pt.U, Pt.locs, Pt.cells, Pt.slots] at X' e1 e2 h1 h2 h3 st hcl
    subst h1; subst h2; subst h3
    exact Or.inr ⟨q, (T.setVm vm₁).calling g' mk As.toArray, t, U', L, E, ce, hT, X', hL, e1, e2, hq, hce, hcv, vx_cls hW₁ hcl, st⟩
end
end VXH
theorem vx_ofWH {l : Launch} {y : MethodName} {ws ws' : List Cond} {rm : Room} {Pc : Array Value → State → Prop} {Qc : Array Value → State → Outcome → State → Prop} {XC : String → State → State → Prop} {mc ms : Nat} {free : Addr → Prop} {cc : ByteArray} {maxL : Nat} {ret : Option FieldType} {hh : List (Nat × Nat × Nat × Nat)}
    (hy : plainName y.cls = true) (hw : ws = Cond.codeWith y cc maxL ret hh :: ws')
    (body : ∀ p e s m args below meth c s₁, BodyLoose p l y (headSpec ws rm) cc maxL ret e s m args below meth c s₁ → c.maxLocals = maxL → Pc args s →
      W p l e (headSpec ws rm).room s m args below meth c s.heap [] 0 0 (vx_MQ below Qc XC args s mc ms free) (entryFrame m args maxL)) : vx_Met l y ws rm Pc Qc XC mc ms free := by
  refine MetFree.of_bodyS (code := cc) (maxLocals := maxL) (ret := ret) hy ?_ ?_
  · intro args s m h hn
    obtain ⟨m9, meth, c, hn9, h1, h2, h3, h4, -, h5, h6, -⟩ := Cond.codeWith_spec (atoms_spec (ws := ws) h _ (by rw [hw]; exact List.mem_cons_self))
    cases hn.symm.trans hn9
    exact ⟨meth, c, h1, h2, h3, h4, h5, h6⟩
  · intro p e s m args below meth c s₁ B hml hP _
    have hh0 : s₁.heap = s.heap := by rw [B.state]; rfl
    obtain ⟨t, a1, o, b1, b2, b3⟩ := body p e s m args below meth c s₁ B hml hP s₁ hh0 (Stand.of_body B)
    exact ⟨t, o, a1, b1, b2, b3⟩
/-! ===== END ===== -/
end
section
/-! the throw whose first constructor passes its text on by index 13 -/
noncomputable abbrev b13 : ByteArray := ⟨#[0x2a, 0x2b, 0xb7, 0x00, 0x0d, 0xb1]⟩
theorem b13_0 : decode b13 0 = .ok (.aload_n 0, 1) := by decide +kernel
theorem b13_1 : decode b13 1 = .ok (.aload_n 1, 1) := by decide +kernel
theorem b13_2 : decode b13 2 = .ok (.invokespecial 13, 3) := by decide +kernel
theorem b13_5 : decode b13 5 = .ok (.return_, 1) := by decide +kernel
/-- the words of the object's own kind -/
noncomputable def o13 (own : String) (ic : Nat) (E : String) : List Cond := [.methodLink own ic (Bundle.initS E), .instantiable E 6, .selects E Bundle.tFill0 Bundle.tFill0, .selects E Bundle.tFill Bundle.tFill, .castable E E,
  .lays E Bundle.tN "cause" "Ljava/lang/Throwable;", .lays E Bundle.tN "stackTrace" Bundle.steD, .lays E Bundle.tN "suppressedExceptions" Bundle.listD, .lays E Bundle.tN "detailMessage" "Ljava/lang/String;", .lays E Bundle.tN "backtrace" "Ljava/lang/Object;",
  .isRef (.static Bundle.tN "UNASSIGNED_STACK" Bundle.steD), .isRef (.static Bundle.tN "SUPPRESSED_SENTINEL" Bundle.listD), .fieldLink Bundle.tN 198 Bundle.tN "backtrace" "Ljava/lang/Object;", .lays Bundle.tN Bundle.tN "backtrace" "Ljava/lang/Object;"]
noncomputable def a13 (own : String) (ic : Nat) (E F : String) (up : List String) : List Cond := Bundle.throwableAtoms ++ (Bundle.throwableSAtoms ++ (Bundle.passSAtoms E F 13 b13 ++ (Bundle.chainSAtoms F up ++ o13 own ic E)))
theorem a13_t {own E F : String} {ic : Nat} {up : List String} {w : Cond} (h : w ∈ Bundle.throwableAtoms) : w ∈ a13 own ic E F up := List.mem_append_left _ h
theorem a13_s {own E F : String} {ic : Nat} {up : List String} {w : Cond} (h : w ∈ Bundle.throwableSAtoms) : w ∈ a13 own ic E F up := List.mem_append_right _ (List.mem_append_left _ h)
theorem a13_p {own E F : String} {ic : Nat} {up : List String} {w : Cond} (h : w ∈ Bundle.passSAtoms E F 13 b13) : w ∈ a13 own ic E F up := List.mem_append_right _ (List.mem_append_right _ (List.mem_append_left _ h))
theorem a13_c {own E F : String} {ic : Nat} {up : List String} {w : Cond} (h : w ∈ Bundle.chainSAtoms F up) : w ∈ a13 own ic E F up := List.mem_append_right _ (List.mem_append_right _ (List.mem_append_right _ (List.mem_append_left _ h)))
theorem a13_o {own E F : String} {ic : Nat} {up : List String} {w : Cond} (h : w ∈ o13 own ic E) : w ∈ a13 own ic E F up := List.mem_append_right _ (List.mem_append_right _ (List.mem_append_right _ (List.mem_append_right _ h)))
theorem ch13 {args : Array Value} {s : State} {pl : Platform} (hpl : pl.magicAccessors = ({} : Platform).magicAccessors) {top : MethodId} (htop : s.methodNamed? (Bundle.initS Bundle.tN) = some top) {own E F : String} {ic : Nat} {up : List String} (hE : Bundle.fit E = true) (hF : Bundle.fit F = true) (hup : ∀ n ∈ up, Bundle.fit n = true) (h : ∀ w ∈ a13 own ic E F up, w.before args s = true) :
    ∃ (P : PassC) (Ps : List PassC), Ps.length = up.length + 1 ∧ (∀ Q, Q ∈ P :: Ps → Q.LinksS pl s) ∧ s.methodNamed? (Bundle.initS E) = some P.m ∧ P.sup = firstOf top (Ps.map (·.toPassT)) ∧ PassesOn top (Ps.map (·.toPassT)) := by
  obtain ⟨P, k1, k2, k3⟩ := PassC.ofS_atoms (args := args) (s := s) hpl (X := E) (Y := F) (Bundle.fit_spec hE).1 (Bundle.fit_spec hF).2 b13_0 b13_1 b13_2 b13_5 (fun w hw => h w (a13_p hw))
  obtain ⟨P2, Ps, j1, j2, j3, j4, j5, j6⟩ := Bundle.chainS (args := args) hpl htop up F hF hup (fun w hw => h w (a13_c hw))
  exact ⟨P, P2 :: Ps, congrArg (· + 1) j1, List.forall_mem_cons.mpr ⟨k1, List.forall_mem_cons.mpr ⟨j2, j3⟩⟩, k2, Option.some.inj (k3.symm.trans j4), j5, j6⟩
section T13
variable {p : Program} {l : Launch} {e : Env} {R : Room} {s : State} {m : MethodId} {args : Array Value} {below : List Frame} {meth : Method} {c : Code} {T : State} {locs : List Loc} {cells slots : Nat}
set_option maxHeartbeats 1000000 in
theorem ct13 (X : Stand p l e R s m args below meth c T locs cells slots) (hexec : p.tables.exec = Jvm.exec) (htr : e.platform.stackTraces = false) {own E F : String} {up : List String} {ic : Nat} (hown : s.vm.findClass own = some m.cls) (hE : Bundle.fit E = true) (hF : Bundle.fit F = true) (hup : ∀ n ∈ up, Bundle.fit n = true) (h : ∀ w ∈ a13 own ic E F up, w.before args s = true)
    (hlocs : ∀ x ∈ locs, ∀ cell, s.heap[x.base]? = some cell → cell.vm.isStatics = false) {a : Addr} {cX : ClassId} {kX : Class} (hfX : s.vm.findClass E = some cX) (hkX : s.vm.classes[cX]? = some kX) (hcell : T.heap[a]? = some (freshCell cX kX)) (hnew : s.heap.size ≤ a) {msg : Value} (hmsg : msg.isRef = true)
    {g : JFrame} (hg : g.method = m) (hsize : g.locals.size = c.maxLocals) (hlocked : g.locked = none) (hentered : g.entered = []) {rest : List Value} (hstack : g.stack = msg :: .ref a :: .ref a :: rest)
    (d1 : decode c.code g.pc = .ok (.invokespecial ic, 3)) (d2 : decode c.code (g.pc + 3) = .ok (.athrow, 1)) (hout : ∀ x ∈ c.exceptionTable.toList, covers x (g.pc + 3) = false)
    (hRf : up.length + 1 + 3 < R.frames) (hRl : 2 * g.monitorRoom + ((Value.ref a :: rest).map fun v => v.category).sum + (13 * (up.length + 1 + 1) + 42) ≤ R.locals) (hlocks : meth.locks = false) :
    ∃ U : State, Steps p.tables e below (T.setTop g) U ∧ U.status = .running ∧ Ended U below (.threw a) ∧ s.WarmedH U.vm ∧ s.sameButNew ({ U with vm := s.vm } : State) locs cells slots ∧
      ∃ ce, U.heap[a]? = some ce ∧ ce.vm = .none ∧ s.vm.findClass E = some ce.cls := by
  have hpl : e.platform.magicAccessors = ({} : Platform).magicAccessors := by rw [X.admits.platform]
  have ho : ∀ w, w ∈ o13 own ic E → w.holds args s none s [] = true := fun w hw => h w (a13_o hw)
  obtain ⟨Th, Z0, L, -, Y⟩ := ThrowableC.of_atoms (args := args) (by rw [X.admits.platform]) (by rw [X.admits.platform]) hpl (fun w hw => h w (a13_t hw))
  obtain ⟨Z, M, LZ, LM, hnZ⟩ := Init0T.ofS_atoms (args := args) hpl L Y (fun w hw => h w (a13_s hw))
  obtain ⟨P, Ps, hlen, hLs, hPm, hlk1, hlk⟩ := ch13 (args := args) hpl hnZ hE hF hup h
  have hfound : s.vm.findClass E = some P.m.cls := findClass_of_methodNamed hPm
  cases Option.some.inj (hfX.symm.trans hfound)
  obtain ⟨c1, k9, hc1, hk, hord, -⟩ := Cond.instantiable_spec (ho (.instantiable E 6) (by simp [o13]))
  cases Option.some.inj (hc1.symm.trans hfound)
  cases Option.some.inj (hkX.symm.trans hk)
  have sel : ∀ (y : MethodName) (f : MethodId), Cond.selects E y y ∈ o13 own ic E → s.methodNamed? y = some f → s.methodFound? y.cls y.name y.desc = some f → selectMethod e.platform s.vm P.m.cls f = .method f := fun y f hm hn hfd => by
    obtain ⟨c2, r2, m2, q1, q2, q3, q4, -⟩ := Cond.selects_spec (ho _ hm)
    cases Option.some.inj (q1.symm.trans hfound)
    cases Option.some.inj (q2.symm.trans hfd)
    cases Option.some.inj (q3.symm.trans hn)
    rw [Launch.admits_selectMethod X.admits]
    exact q4
  have hs0 := sel Bundle.tFill0 Th.fill0 (by simp [o13]) Y.fill0 (State.methodFound?_of_named Y.fill0 (by decide))
  have hs1 := sel Bundle.tFill Th.fill (by simp [o13]) Y.fill (State.methodFound?_of_named Y.fill (by decide))
  obtain ⟨cS0, hcS0, hiss⟩ := Y.statics
  obtain ⟨u0, hu0⟩ := Cond.staticRefV Y.unassigned L.unassignedStatic L.statics hcS0 hiss (ho (.isRef (.static Bundle.tN "UNASSIGNED_STACK" Bundle.steD)) (by simp [o13]))
  obtain ⟨sen, hsen⟩ := Cond.staticRefV Y.sentinel L.sentinelStatic L.statics hcS0 hiss (ho (.isRef (.static Bundle.tN "SUPPRESSED_SENTINEL" Bundle.listD)) (by simp [o13]))
  obtain ⟨ci9, i9, fB, r1, r2, r3, r4, -, hnB, htB, hffB⟩ := Cond.ownField (t := .object "java/lang/Object") Y.found L.cls (by decide +kernel) (ho (.fieldLink Bundle.tN 198 Bundle.tN "backtrace" "Ljava/lang/Object;") (by simp [o13])) (ho (.lays Bundle.tN Bundle.tN "backtrace" "Ljava/lang/Object;") (by simp [o13])) e.platform hpl
  obtain ⟨cS, hcS, heS, -, hkeep⟩ := X.same.2.2.2.2.2 Th.aS cS0 hcS0
  have hno : ∀ i, (⟨Th.aS, i⟩ : Loc) ∉ locs := fun i hmem => Bool.noConfusion ((hlocs _ hmem cS0 hcS0).symm.trans hiss)
  have hkn : cS.vm ≠ .unknown := by
    rw [heS]
    intro hu
    rw [show cS0.vm = .unknown from hu] at hiss
    cases hiss
  have hne : Th.aS ≠ a := Nat.ne_of_lt (Nat.lt_of_lt_of_le (Array.getElem?_eq_some_iff.mp hcS0).1 hnew)
  obtain ⟨iM, hffM⟩ := Y.msg
  obtain ⟨tyC, dC, q1, q2⟩ := Cond.laysAt hfound hk Y.cause (ho (.lays E Bundle.tN "cause" "Ljava/lang/Throwable;") (by simp [o13]))
  obtain ⟨tyS, dS, q3, q4⟩ := Cond.laysAt hfound hk Y.stack (ho (.lays E Bundle.tN "stackTrace" Bundle.steD) (by simp [o13]))
  obtain ⟨tyP, dP, q5, q6⟩ := Cond.laysAt hfound hk Y.supp (ho (.lays E Bundle.tN "suppressedExceptions" Bundle.listD) (by simp [o13]))
  obtain ⟨tyM, dM, q7, q8⟩ := Cond.laysAt hfound hk hffM (ho (.lays E Bundle.tN "detailMessage" "Ljava/lang/String;") (by simp [o13]))
  obtain ⟨tyB, dB, q9, q0⟩ := Cond.laysAt hfound hk hffB (ho (.lays E Bundle.tN "backtrace" "Ljava/lang/Object;") (by simp [o13]))
  have z1 := Cond.laysApart q9 q1 q0 q2 (by rw [hnB, Y.causeName]; decide)
  have z2 := Cond.laysApart q9 q3 q0 q4 (by rw [hnB, Y.stackName]; decide)
  have z3 := Cond.laysApart q9 q5 q0 q6 (by rw [hnB, Y.suppName]; decide)
  have hsk : SkipFacts Th e.platform s (fun u => u) u0 ((preparedCellV Th.toThrowableT (freshCell P.m.cls kX) a u0 sen).withEntry T.cur) := by
    refine ⟨{ ci198 := ci9, i198 := i9, fBack := fB }, ⟨r1, r2, r3, r4⟩, ?_, fun _ _ => rfl⟩
    have z := fresh_default (c := P.m.cls) tyB
    rw [htB] at z
    simpa [preparedCellV, Cell.setSlot, Cell.withEntry, Array.getElem?_setIfInBounds, z1, z2, z3, z1.symm, z2.symm, z3.symm, defaultValue] using z
  obtain ⟨tm, mC, cdC, kC, vm₁, hnC, -, -, -, -, -, -, -, hW₁, st1⟩ := Steps.initColdS (tb := p.tables) (e := e) (below := below) (s := s) (U := T) X.here hexec X.warmed hpl hown (t := Bundle.initS E) rfl rfl (Bundle.fit_spec hE).2
    (ho (.methodLink own ic (Bundle.initS E)) (by simp [o13])) (h (.instanceMethod (Bundle.initS E)) (a13_p List.mem_cons_self)) (bytes := b13) (maxL := 2) (h (.code (Bundle.initS E) b13 2 none) (a13_p (List.mem_cons_of_mem _ List.mem_cons_self)))
    (f := g) hg (a := a) (msg := msg) (rest := .ref a :: rest) hstack d1
  cases Option.some.inj (hnC.symm.trans hPm)
  obtain ⟨vm₂, X₂, st2⟩ := (X.noted hW₁).ctorMessageOffV hexec (g := { g with stack := .ref a :: rest }) hg hsize Th L Z LZ M LM (P :: Ps) hLs ⟨hlk1, hlk⟩ (u0 := u0) (sen := sen) (self := a) hmsg (cell := freshCell P.m.cls kX) (cellS := cS)
    hcell (fun _ => by simp) (by simp) rfl rfl hs0 hs1 hcS hne hkn (by rw [hkeep _ (hno _)]; exact hu0) (by rw [hkeep _ (hno _)]; exact hsen)
    (Takes.of_laid hk hord tyC (by rw [Y.causeType]; rfl)) (Takes.of_laid hk hord tyS (by rw [Y.stackType]; exact fits_refV_array _ u0)) (Takes.of_laid hk hord tyP (by rw [Y.suppType]; exact fits_refV_object _ sen))
    (Takes.of_laid hk hord tyM (by rw [Y.msgType]; exact fits_refV_object _ ⟨msg, hmsg⟩)) Y.objLocals hsk htr [] d1
    (by simp only [List.length_cons, hlen]; omega) (by simp only [List.length_cons, hlen]; exact hRl)
  obtain ⟨hwalk, hrun, hend, hWU, hsame⟩ := X₂.athrowLeaves hexec (g := { g with stack := .ref a :: rest, pc := g.pc + 3 }) hg hlocked hentered hout (a := a) (rest := rest) rfl d2
  have hlt : a < ((T.setVm vm₁).setVm vm₂).heap.size := (Array.getElem?_eq_some_iff.mp hcell).1
  have hU := heapAt_setCell_self (s := (T.setVm vm₁).setVm vm₂) (plainBareV Th.toThrowableT (freshCell P.m.cls kX) a u0 sen msg) hlt
  refine ⟨_, st1 _ (fun acts => ?_), hrun, hend, hWU, hsame.weaken (fun y hy hlt' => ?_) (Nat.le_refl _) (Nat.le_refl _), _, hU, rfl, hfound⟩
  · rw [doInvoke_state]
    exact st2 _ hwalk
  · rcases List.mem_append.mp hy with z | z
    · exact z
    · have hb : y.base = a := by
        simp only [List.mem_cons, List.not_mem_nil, or_false] at z
        rcases z with rfl | rfl | rfl | rfl | rfl <;> rfl
      exact absurd (hb ▸ hlt') (Nat.not_lt.mpr hnew)
end T13
section W13
variable {p : Program} {l : Launch} {e : Env} {R : Room} {s : State} {m : MethodId} {args : Array Value} {below : List Frame} {meth : Method} {c : Code} {H : Heap} {locs : List Loc} {cells slots : Nat} {Q : State → Prop}
variable {mc ms : Nat} {free : Addr → Prop} {A0 A1 : Nat → Prop} {H0 : Heap} {a : Array Value} {ls : Array Slot} {st0 rest : List Value}
variable {Qc : Array Value → State → Outcome → State → Prop} {XC : String → State → State → Prop}
theorem tw13 {cc : ByteArray} {pc : Nat} (hexec : p.tables.exec = Jvm.exec) (hb : c.code = cc) (hl : l.stackTraces = false) {own cls F text : String} {names : List String} {ik is ic mc ms sa : Nat} {A : Nat → Prop}
    (hown : s.vm.findClass own = some m.cls) (hcls : Bundle.fit cls = true) (hF : Bundle.fit F = true) (hnames : ∀ n ∈ names, Bundle.fit n = true)
    (hk : (Cond.classLink own ik cls).before args s = true) (hini : (Cond.initialized cls).before args s = true) (hstr : vk_R own is text sa s) (hat : ∀ w ∈ (a13 own ic cls F names).filter vx_no, w.before args s = true)
    (hgood : ∀ w ∈ Cond.classLink own ik cls :: Cond.initialized cls :: (a13 own ic cls F names).filter vx_no, vx_ot w = true)
    (hU : vx_Zq Bundle.tN "UNASSIGNED_STACK" Bundle.steD A s s.heap) (hN : vx_Zq Bundle.tN "SUPPRESSED_SENTINEL" Bundle.listD A s s.heap) (hS : va_S A s.heap H locs) (hsize : ls.size = c.maxLocals)
    (d0 : decode cc pc = .ok (.new ik, 3)) (d3 : decode cc (pc + 3) = .ok (.dup, 1)) (d4 : decode cc (pc + 4) = .ok (.ldc_w is, 3)) (d7 : decode cc (pc + 7) = .ok (.invokespecial ic, 3)) (d10 : decode cc (pc + 10) = .ok (.athrow, 1))
    (hout : ∀ x ∈ c.exceptionTable.toList, covers x (pc + 10) = false)
    (hRframes : names.length + 1 + 3 < R.frames) (hRlocals : (rest.map fun v => v.category).sum + (13 * (names.length + 1 + 1) + 43) ≤ R.locals) (hRcells : cells + 1 ≤ R.cells) (hRslots : slots + 6 ≤ R.slots) (hlocks : meth.locks = false)
    (hx : ∀ t : State, s.vm.Alike t.vm → H.size ≤ t.heap.size → (∀ q : Nat, q < H.size → t.heap[q]? = H[q]?) → XC cls s t)
    (hf : ∀ z ∈ locs, free z.base) (hc : cells + 1 ≤ mc) (hs : slots + 6 ≤ ms) :
    W p l e R s m args below meth c H locs cells slots (vx_MQ below Qc XC args s mc ms free) (F0 m pc ls rest) := by
  intro T hT X
  have htr : e.platform.stackTraces = false := (show e.platform.stackTraces = l.stackTraces by rw [X.admits.platform]).trans hl
  have Y := vx_rebase X (R' := { frames := R.frames, locals := R.locals, cells := 1, slots := 6 }) (Nat.le_refl _) (Nat.le_refl _) hRcells hRslots
  obtain ⟨s', hA⟩ : ∃ z, z = (T.setVm s.vm).setFrames (.invoking m args :: below) := ⟨_, rfl⟩
  rw [← hA] at Y
  have hvm : s'.vm = s.vm := by rw [hA]; rfl
  have hhp : s'.heap = H := by rw [hA]; exact hT
  have hW0 : s.WarmedH s'.vm := by rw [hvm]; exact State.WarmedH.refl s
  have hat' : ∀ w ∈ (a13 own ic cls F names).filter vx_no, w.before args s' = true := fun w hw => vx_ot_at hW0 hvm.symm (hgood w (List.mem_cons_of_mem _ (List.mem_cons_of_mem _ hw))) (hat w hw)
  have hk' : (Cond.classLink own ik cls).before args s' = true := vx_ot_at hW0 hvm.symm (hgood _ List.mem_cons_self) hk
  have hini' : (Cond.initialized cls).before args s' = true := vx_ot_at hW0 hvm.symm (hgood _ (List.mem_cons_of_mem _ List.mem_cons_self)) hini
  have hU' : vx_Zq Bundle.tN "UNASSIGNED_STACK" Bundle.steD A s' s'.heap := by rw [hhp]; exact vx_Zq.moved hW0.alike (hU.kept hS.2.1)
  have hN' : vx_Zq Bundle.tN "SUPPRESSED_SENTINEL" Bundle.listD A s' s'.heap := by rw [hhp]; exact vx_Zq.moved hW0.alike (hN.kept hS.2.1)
  have h : ∀ w ∈ a13 own ic cls F names, w.before args s' = true := vx_own hat' (vx_isRefq hU'.1) (vx_isRefq hN'.1) hU'.2.word hN'.2.word
  have hown' : s'.vm.findClass own = some m.cls := by rw [hvm]; exact hown
  have hins : (Cond.instantiable cls 6).before args s' = true := h _ (a13_o (by simp [o13]))
  obtain ⟨vm₁, cX, kX, hfX, hkX, -, -, X₁, st1⟩ := Y.newCold hexec (own := own) (C := cls) (index := ik) (n := 6) hown' hk' hins hini'
    (g := F0 m pc ls rest) rfl (by rw [hb]; exact d0) (Nat.le_refl _) (Nat.le_refl _)
  generalize hT1 : (T.setVm vm₁).pushCell { cls := cX, slots := kX.instanceTypes.map defaultValue, vm := .none } = T1 at X₁ st1
  have hcat : (Value.ref T.heap.size).category = 1 := rfl
  have hcellA : T1.heap[T.heap.size]? = some (freshCell cX kX) := by rw [← hT1]; exact State.heap_pushCell_size _ _
  have d3' : decode c.code (pc + 3) = .ok (.dup, 1) := by rw [hb]; exact d3
  have d4' : decode c.code (pc + 4) = .ok (.ldc_w is, 3) := by rw [hb]; exact d4
  have hstr' : vk_R own is text sa s' := vk_R.warm hW0 hstr
  obtain ⟨U, hsteps, hrun, hend, hW, hsame, ce, hce, hOv, hOc⟩ := ct13 X₁ hexec htr (own := own) (E := cls) (F := F) (up := names) (ic := ic) hown' hcls hF hnames h (fun x hx => nomatch hx) hfX hkX hcellA (by rw [hhp, hT]; exact Nat.le_refl _) (msg := .ref sa) rfl
    (g := { method := m, pc := pc + 7, locals := ls, stack := .ref sa :: .ref T.heap.size :: .ref T.heap.size :: rest, locked := none }) rfl hsize rfl rfl (rest := rest) rfl
    (by rw [hb]; exact d7) (by rw [hb]; exact d10) hout hRframes (by simp only [List.map_cons, List.sum_cons, hcat]; omega) hlocks
  obtain ⟨f1, f2⟩ := vx_frame hsame
  rw [hhp] at f1 f2
  have hWs : s.WarmedH U.vm := State.WarmedH.trans hW0 hW
  have hcl : s.vm.findClass cls = some ce.cls := by
    have h9 := hOc
    rw [hvm] at h9
    exact h9
  have hall : s.sameButNew ({ U with vm := s.vm } : State) locs mc ms := by
    subst hA
    obtain ⟨e1, e2⟩ := hsame
    rw [State.setFrames_setFrames] at e1
    have h2 : (T.setVm s.vm).sameButNew ({ U with vm := s.vm } : State) [] (0 + 1) (0 + 6) := ⟨e1, e2⟩
    have h3 := X.same.trans h2
    rw [List.append_nil] at h3
    exact h3.mono hc hs
  refine ⟨U, ?_, .threw T.heap.size, hrun, hend, Or.inr ⟨T.heap.size, rfl, cls, ce, locs, hx U hWs.alike f1 (fun q hq => f2 q hq (fun z hz => nomatch hz)), hce, hOv, hcl, hWs, hall, hf⟩⟩
  refine st1 _ ?_
  show Steps p.tables e below (T1.setTop { method := m, pc := pc + 3, locals := ls, stack := .ref T.heap.size :: rest, locked := none }) _
  jvm_step X₁.here [X₁.here.top, hexec, d3', Value.category]
  exact X₁.ldcStringW hexec (own := own) (text := text) (index := is) (a := sa) hown' hstr'.1 hstr'.2
    (g := { method := m, pc := pc + 4, locals := ls, stack := .ref T.heap.size :: .ref T.heap.size :: rest, locked := none }) rfl d4' _ hsteps
end W13
end
section
/-! about: it may throw; the law catches -/
noncomputable abbrev xE : String := "java/util/NoSuchElementException"
noncomputable abbrev xF : String := "java/lang/RuntimeException"
noncomputable abbrev xN : List String := ["java/lang/Exception"]
noncomputable abbrev aE : List Cond := (a13 "CountyWatch" 310 xE xF xN).filter vx_no
noncomputable def Zx (A : Nat → Prop) (U : State) : Prop := vx_Zq Bundle.tN "UNASSIGNED_STACK" Bundle.steD A U U.heap ∧ vx_Zq Bundle.tN "SUPPRESSED_SENTINEL" Bundle.listD A U U.heap ∧ (∃ sa, vk_R "CountyWatch" 308 "no such constable" sa U) ∧ (∃ sa, vk_R "CountyWatch" 316 "no such what" sa U) ∧ ∀ w ∈ aE, w.before #[] U = true
noncomputable def ft_ (w : Cond) : Bool := w.onTables && (goodWord w || w.faceAtom)
theorem ft_all : (aE).all ft_ = true := by decide +kernel
theorem ft_ot : ∀ w ∈ aE, w.onTables = true := fun w hw => by
  have h := List.all_eq_true.mp ft_all w hw
  simp only [ft_, Bool.and_eq_true] at h
  exact h.1
theorem ft_at {w : Cond} {s U : State} {a a' : Array Value} (hW : s.WarmedH U.vm) (hg : ft_ w = true) (h : w.before a s = true) : w.before a' U = true := by
  simp only [ft_, Bool.and_eq_true, Bool.or_eq_true] at hg
  rcases hg.2 with g | g
  · exact word_at hW (good_of_word g) h
  · exact va_tabs hg.1 (rfl : (s.setVm U.vm).vm = U.vm) (Cond.faceAtom_setVm hW.alike w g h)
theorem Zx.call {A : Nat → Prop} {U : State} {g : JFrame} {mk : MethodId} {a : Array Value} (h : Zx A U) : Zx A (U.calling g mk a) :=
  ⟨vx_Zq.moved (u := U) (U := U.calling g mk a) (Vm.Alike.refl U.vm) h.1, vx_Zq.moved (u := U) (U := U.calling g mk a) (Vm.Alike.refl U.vm) h.2.1, h.2.2.1.elim (fun sa q => ⟨sa, vk_R.same rfl q⟩), h.2.2.2.1.elim (fun sa q => ⟨sa, vk_R.same rfl q⟩), fun w hw => va_tabs (u := U) (ft_ot w hw) rfl (h.2.2.2.2 w hw)⟩
theorem Zx.go {A B : Nat → Prop} {s U : State} {H : Heap} {locs : List Loc} (h : Zx A s) (hS : va_S A s.heap H locs) (hU : U.heap = H) (hW : s.WarmedH U.vm) (hAB : ∀ q, B q → A q) : Zx B U :=
  ⟨by rw [hU]; exact vx_Zq.narrow (vx_Zq.moved hW.alike (vx_Zq.kept h.1 hS.2.1)) hAB, by rw [hU]; exact vx_Zq.narrow (vx_Zq.moved hW.alike (vx_Zq.kept h.2.1 hS.2.1)) hAB, h.2.2.1.elim (fun sa q => ⟨sa, vk_R.warm hW q⟩), h.2.2.2.1.elim (fun sa q => ⟨sa, vk_R.warm hW q⟩), fun w hw => ft_at hW (List.all_eq_true.mp ft_all w hw) (h.2.2.2.2 w hw)⟩
noncomputable def cz_ (dC : Nat → ClassId) (dI : Nat → Nat → Nat) (cy : Nat → ClassId) (ad adV : Nat → Nat) (dom : List Nat) (h : Hp_) (sz : Nat) (U : State) : Prop := cp_ dC dI cy ad adV dom h sz U ∧ Zx (va_A (h_W cy ad h dom) sz) U
theorem cz_blind {dC : Nat → ClassId} {dI : Nat → Nat → Nat} {cy : Nat → ClassId} {ad adV : Nat → Nat} {dom : List Nat} {h : Hp_} {sz : Nat} {av : List Value} : FrameBlind (va_Pc av (cz_ dC dI cy ad adV dom h sz)) := by
  intro a U g mk hq
  obtain ⟨q0, q1, q2⟩ := hq
  have hb := cp_blind (dC := dC) (dI := dI) (cy := cy) (ad := ad) (adV := adV) (dom := dom) (h := h) (sz := sz) (av := av) a U g mk ⟨q0, q1⟩
  exact ⟨hb.1, hb.2, q2.call⟩
/-- cells that a larger heap leaves alone -/
theorem wd_more {dC : Nat → ClassId} {dI : Nat → Nat → Nat} {cy : Nat → ClassId} {A : Nat → Prop} {ad : Nat → Nat} {dom : List Nat} {h : Hp_} {H H1 : Heap} (hW : wd_ dC dI cy A ad dom h H) (hk : ∀ q : Nat, q < H.size → H1[q]? = H[q]?) : wd_ dC dI cy A ad dom h H1 :=
  ⟨hW.1, hW.2.1.kept (fun k x hx => hk x.1 ((hW.2.1 k x hx).lt)), hW.2.2⟩
noncomputable def xx_ (KX : Hp_ → Prop) (dC : Nat → ClassId) (dI : Nat → Nat → Nat) (cy : Nat → ClassId) (A : Nat → Prop) (ad0 : Nat → Nat) (dom0 : List Nat) : String → State → State → Prop := fun E st t => E = xE ∧ (∃ (h : Hp_) (ad : Nat → Nat) (dom : List Nat), KX h ∧ wd_ dC dI cy A ad dom h t.heap ∧ ex_ ad0 ad dom0 dom) ∧ va_F A st t
/-- as AW, of a method that may throw -/
noncomputable def AX (M : Mc_) (pc : Nat) (lv : List (Nat × Value)) (st : List Value) (h : Hp_) (K : Option Value → Hp_ → Prop) (KX : Hp_ → Prop) : Prop :=
  ∀ (l : Ln_) (p : Program) (e : Env) (s : State) (m : MethodId) (args : Array Value) (below : List Frame) (meth : Method) (c : Code) (dC : Nat → ClassId) (dI : Nat → Nat → Nat) (cy : Nat → ClassId) (A : Nat → Prop) (ad0 adV ad : Nat → Nat) (dom0 dom : List Nat) (H : Heap) (locs : List Loc) (ls : Array Slot),
    fr_ (mY M) (mC M) (mN M) (mT M) p s m args meth c dC dI cy A → mX M ad A s → st_ ad adV A s → ex_ ad0 ad dom0 dom → wd_ dC dI cy A ad dom h H → va_S A s.heap H locs → lv_has ls (mN M) (lv.map (fun q => (q.1, h_cv ad q.2))) → (∀ q ∈ lv, h_ok dom q.2) → (∀ v ∈ st, h_ok dom v) → Zx A s → (∀ x ∈ c.exceptionTable.toList, False) →
    W p l.1 e (mR M) s m args below meth c H locs 0 0 (vx_MQ below (qq_ K dC dI cy A ad0 dom0) (xx_ KX dC dI cy A ad0 dom0) args s (mR M).cells (mR M).slots A) (F0 m pc ls (st.map (h_cv ad)))
section AXR
variable {M : Mc_} {pc : Nat} {lv : List (Nat × Value)} {st : List Value} {h : Hp_} {K : Option Value → Hp_ → Prop} {KX : Hp_ → Prop}
theorem ax_ret (k : AW M 0 0 pc lv st h K) : AX M pc lv st h K KX := by
  intro l p e s m args below meth c dC dI cy A ad0 adV ad dom0 dom H locs ls hf hX hT hE hW hS hl ho hs hZ ht
  exact vx_ret (k l p e s m args below meth c dC dI cy A ad0 adV ad dom0 dom H locs ls hf hX hT hE hW hS hl ho hs)
theorem ax_iload_n {i : Nat} {x : Int32} {z : Fin 4} (hz : (z : Nat) = i) (hd : decode (mC M) pc = .ok (.iload_n z, 1)) (j : Nat) (hj : lv[j]? = some (i, .int x)) (k : AX M (pc + 1) lv (.int x :: st) h K KX) : AX M pc lv (st) h K KX := by
  intro l p e s m args below meth c dC dI cy A ad0 adV ad dom0 dom H locs ls hf hX hT hE hW hS hl ho hs hZ ht
  exact lv_iload_n hf.1 hf.2.1 hd hz (lv_fnd (List.mem_of_getElem? hj) hl) (k l p e s m args below meth c dC dI cy A ad0 adV ad dom0 dom H locs ls hf hX hT hE hW hS hl ho (ok_c ok_i hs) hZ ht)
theorem ax_aload_n {i : Nat} {x : Nat} {z : Fin 4} (hz : (z : Nat) = i) (hd : decode (mC M) pc = .ok (.aload_n z, 1)) (j : Nat) (hj : lv[j]? = some (i, .ref x)) (k : AX M (pc + 1) lv (.ref x :: st) h K KX) : AX M pc lv (st) h K KX := by
  intro l p e s m args below meth c dC dI cy A ad0 adV ad dom0 dom H locs ls hf hX hT hE hW hS hl ho hs hZ ht
  exact lv_aload_n hf.1 hf.2.1 hd hz (lv_fnd (List.mem_of_getElem? hj) hl) (k l p e s m args below meth c dC dI cy A ad0 adV ad dom0 dom H locs ls hf hX hT hE hW hS hl ho (ok_c (ho _ (List.mem_of_getElem? hj)) hs) hZ ht)
theorem ax_aload_nN {i : Nat} {z : Fin 4} (hz : (z : Nat) = i) (hd : decode (mC M) pc = .ok (.aload_n z, 1)) (j : Nat) (hj : lv[j]? = some (i, .null)) (k : AX M (pc + 1) lv (.null :: st) h K KX) : AX M pc lv (st) h K KX := by
  intro l p e s m args below meth c dC dI cy A ad0 adV ad dom0 dom H locs ls hf hX hT hE hW hS hl ho hs hZ ht
  exact lv_aload_nN hf.1 hf.2.1 hd hz (lv_fnd (List.mem_of_getElem? hj) hl) (k l p e s m args below meth c dC dI cy A ad0 adV ad dom0 dom H locs ls hf hX hT hE hW hS hl ho (ok_c ok_n hs) hZ ht)
theorem ax_ifnonnull {a : Nat} {off : Int} {tgt : Nat} (hd : decode (mC M) pc = .ok (.ifnonnull off, 3)) (ht : (pc : Int) + off = (tgt : Int)) (k : AX M tgt lv (st) h K KX) : AX M pc lv (.ref a :: st) h K KX := by
  intro l p e s m args below meth c dC dI cy A ad0 adV ad dom0 dom H locs ls hf hX hT hE hW hS hl ho hs hZ ht2
  exact lv_ifnonnull hf.1 hf.2.1 hd ht (k l p e s m args below meth c dC dI cy A ad0 adV ad dom0 dom H locs ls hf hX hT hE hW hS hl ho (ok_t hs) hZ ht2)
theorem ax_ifnonnullN {off : Int} (hd : decode (mC M) pc = .ok (.ifnonnull off, 3)) (k : AX M (pc + 3) lv (st) h K KX) : AX M pc lv (.null :: st) h K KX := by
  intro l p e s m args below meth c dC dI cy A ad0 adV ad dom0 dom H locs ls hf hX hT hE hW hS hl ho hs hZ ht
  exact lv_ifnonnullN hf.1 hf.2.1 hd (k l p e s m args below meth c dC dI cy A ad0 adV ad dom0 dom H locs ls hf hX hT hE hW hS hl ho (ok_t hs) hZ ht)
theorem ax_tableOut {dflt lo hi : Int} {offs : Array Int} {len : Nat} {x : Int32} {tgt : Nat} (hd : decode (mC M) pc = .ok (.tableswitch dflt lo hi offs, len)) (h1 : x.toInt < lo ∨ hi < x.toInt) (ht : (pc : Int) + dflt = (tgt : Int)) (k : AX M tgt lv (st) h K KX) : AX M pc lv (.int x :: st) h K KX := by
  intro l p e s m args below meth c dC dI cy A ad0 adV ad dom0 dom H locs ls hf hX hT hE hW hS hl ho hs hZ ht2
  exact lv_tableOut hf.1 hf.2.1 hd h1 ht (k l p e s m args below meth c dC dI cy A ad0 adV ad dom0 dom H locs ls hf hX hT hE hW hS hl ho (ok_t hs) hZ ht2)
theorem ax_astore_n {i : Nat} {x : Nat} {z : Fin 4} (hz : (z : Nat) = i) (lv' : List (Nat × Value)) (hd : decode (mC M) pc = .ok (.astore_n z, 1)) (hn : i < mN M) (hr : (lv_rise lv && lv_fit i lv) = true) (hp : lv_put i (.ref x) lv = lv') (k : AX M (pc + 1) lv' st h K KX) : AX M pc lv (.ref x :: st) h K KX := by
  intro l p e s m args below meth c dC dI cy A ad0 adV ad dom0 dom H locs ls hf hX hT hE hW hS hl ho hs hZ ht
  rw [Bool.and_eq_true] at hr
  subst hp
  refine lv_astore_n hf.1 hf.2.1 hd hz hl hn rfl (fun ls' hl' => ?_)
  refine k l p e s m args below meth c dC dI cy A ad0 adV ad dom0 dom H locs ls' hf hX hT hE hW hS (lv_put_has (v := .ref x) hr.1 hr.2 hl') (fun q hq => ?_) (ok_t hs) hZ ht
  rcases lv_put_mem hq with h1 | h1
  · rw [h1]; exact ok_h hs
  · exact ho q h1
theorem ax_astore_nN {i : Nat} {z : Fin 4} (hz : (z : Nat) = i) (lv' : List (Nat × Value)) (hd : decode (mC M) pc = .ok (.astore_n z, 1)) (hn : i < mN M) (hr : (lv_rise lv && lv_fit i lv) = true) (hp : lv_put i (.null) lv = lv') (k : AX M (pc + 1) lv' st h K KX) : AX M pc lv (.null :: st) h K KX := by
  intro l p e s m args below meth c dC dI cy A ad0 adV ad dom0 dom H locs ls hf hX hT hE hW hS hl ho hs hZ ht
  rw [Bool.and_eq_true] at hr
  subst hp
  refine lv_astore_nN hf.1 hf.2.1 hd hz hl hn rfl (fun ls' hl' => ?_)
  refine k l p e s m args below meth c dC dI cy A ad0 adV ad dom0 dom H locs ls' hf hX hT hE hW hS (lv_put_has (v := .null) hr.1 hr.2 hl') (fun q hq => ?_) (ok_t hs) hZ ht
  rcases lv_put_mem hq with h1 | h1
  · rw [h1]; exact ok_n
  · exact ho q h1
theorem ax_back {a : Array Value} {rest st0 : List Value} {K' : Option Value → Hp_ → Prop} (hXs : xs_ M)
    {l : Ln_} {p : Program} {e : Env} {s : State} {m : MethodId} {args : Array Value} {below : List Frame} {meth : Method} {c : Code} {dC : Nat → ClassId} {dI : Nat → Nat → Nat} {cy : Nat → ClassId} {A : Nat → Prop} {ad0 adV ad : Nat → Nat} {dom0 dom : List Nat} {H : Heap} {locs : List Loc} {ls : Array Slot}
    (hf : fr_ (mY M) (mC M) (mN M) (mT M) p s m args meth c dC dI cy A) (hX : mX M ad A s) (hT : st_ ad adV A s) (hE : ex_ ad0 ad dom0 dom) (hW : wd_ dC dI cy A ad dom h H) (hS : va_S A s.heap H locs) (hl : lv_has ls (mN M) (lv.map (fun q => (q.1, h_cv ad q.2)))) (ho : ∀ q ∈ lv, h_ok dom q.2) (hs : ∀ v ∈ rest, h_ok dom v) (hZ : Zx A s) (ht : ∀ x ∈ c.exceptionTable.toList, False)
    (hr : va_Run p l.1 e (mR M) s m args below meth c H locs 0 0 0 0 (F0 m pc ls st0) (rest.map (h_cv ad)) (qq_ K' dC dI cy (va_A (h_W cy ad h dom) H.size) ad dom a) (va_A (h_W cy ad h dom) H.size))
    (k : ∀ v h', K' v h' → AX M (pc + 3) lv (v.toList ++ rest) h' K KX) :
    W p l.1 e (mR M) s m args below meth c H locs 0 0 (vx_MQ below (qq_ K dC dI cy A ad0 dom0) (xx_ KX dC dI cy A ad0 dom0) args s (mR M).cells (mR M).slots A) (F0 m pc ls st0) := by
  intro T hT0 X
  obtain ⟨v, st₀, t, T', L, h0, X', hL, e1, e2, ⟨⟨v', h', ad', dom', hv, hK', hW', hov, hE'⟩, hz, hkp⟩, stp⟩ := hr T hT0 X
  cases hv
  rw [h0] at hz hkp
  have hAA := cp_sub hf.2.2.2.2.2.2.2.2.2 hW hS
  have hS1 : va_S A s.heap T'.heap (locs ++ L) := ⟨Nat.le_trans hS.1 (by rw [e1]; exact hz), fun q h1 h2 => by rw [e1, hkp q (Nat.lt_of_lt_of_le h1 hS.1) (fun z => h2 (hAA q z))]; exact hS.2.1 q h1 h2, fun q hq => by
      rcases List.mem_append.mp hq with z | z
      · exact hS.2.2 q z
      · exact hAA _ (hL q z)⟩
  have hW1 : wd_ dC dI cy A ad' dom' h' T'.heap := ⟨hW'.1, by rw [e1]; exact hW'.2.1, hW'.2.2.weaken (fun _ _ _ z => hAA _ z)⟩
  have hs1 : ∀ x ∈ v'.toList ++ rest, h_ok dom' x := by
    intro x hx
    rcases List.mem_append.mp hx with z | z
    · exact hov x (Option.mem_toList.mp z)
    · exact h_ok_mono hE'.2 (hs x z)
  have he : ∀ a, 1000 ≤ a → ad' a = ad a := fun a ha => hE'.1 a (Or.inr ha)
  have hl1 : lv_has ls (mN M) (lv.map (fun q => (q.1, h_cv ad' q.2))) := by
    rw [lvs_same (fun q hq z hz => hE'.1 z (ho q hq z hz))]
    exact hl
  have hz1 := k v' h' hK' l p e s m args below meth c dC dI cy A ad0 adV ad' dom0 dom' T'.heap (locs ++ L) ls hf (hXs ad ad' A s he hX) (st_same he hT) (ex_trans hE hE') hW1 hS1 hl1 (fun q hq => h_ok_mono hE'.2 (ho q hq)) hs1 hZ ht
  obtain ⟨t2, a1, b1⟩ := hz1 T' rfl X'
  refine ⟨t2, stp t2 ?_, b1⟩
  rw [List.map_append, cvs_same (ad := ad) (fun x hx z w => hE'.1 z (hs x hx z w))] at a1
  cases v' <;> exact a1
theorem ax_callV {M' : Mc_} {vs rest : List Value} {K' : Option Value → Hp_ → Prop} {n idx ci a N : Nat} {C : String} {T : u_T} (hd : decode (mC M) pc = .ok (.invokevirtual idx, 3)) (hm : cm_ M' n) (hkc : kc_ ci C T N) (hs0 : h_sh h a = some (ci + 10, N)) (hin : Cond.instanceMethod (mY M') ∈ lw_g) (hse : Cond.selects C (mY M') (mY M') ∈ lw_g) (hlk : Cond.methodLink (mY M).cls idx (mY M') ∈ lw_g) (hn : vs.length = n) (hR : (mR M').frames + 1 ≤ (mR M).frames ∧ 8 + (mN M' + 11) + (mR M').locals ≤ (mR M).locals) (hc : (rest.map (fun v => v.category)).sum ≤ 8) (hz : (mR M').cells = 0 ∧ (mR M').slots = 0) (hXs : xs_ M)
    (hC : Ct M' (.ref a :: vs) h K') (k : ∀ v h', K' v h' → AX M (pc + 3) lv (v.toList ++ rest) h' K KX) : AX M pc lv (vs.reverse ++ .ref a :: rest) h K KX := by
  intro l p e s m args below meth c dC dI cy A ad0 adV ad dom0 dom H locs ls hf hX hT hE hW hS hl ho hs hZ ht
  have hov : ∀ v ∈ Value.ref a :: vs, h_ok dom v := fun v hv => hs v (by
    rcases List.mem_cons.mp hv with z | z
    · exact List.mem_append_right _ (by rw [z]; exact List.mem_cons_self)
    · exact List.mem_append_left _ (List.mem_reverse.mpr z))
  obtain ⟨q, hq, hw⟩ := h_W_get (cy := cy) (ad := ad) (h := h) (wd_in hW hs0)
  rw [h_ce_obj hs0] at hw
  have hr : va_Run p l.1 e (mR M) s m args below meth c H locs 0 0 (mR M').cells (mR M').slots (F0 m pc ls ((vs.reverse ++ .ref a :: rest).map (h_cv ad))) (rest.map (h_cv ad)) (qq_ K' dC dI cy (va_A (h_W cy ad h dom) H.size) ad dom (Value.ref (ad a) :: vs.map (h_cv ad)).toArray) (va_A (h_W cy ad h dom) H.size) :=
    va_runV (As := vs.map (h_cv ad)) ⟨hf.1, hf.2.1, hf.2.2.1, hf.2.2.2.2.2.1, hf.2.2.2.2.2.2.2.1⟩ (hC l dC dI cy ad adV dom H.size hW.1 hov) ⟨cb_ hf.2.2.2.2.2.2.2.1 hm hlk hR, hf.2.2.2.2.2.2.2.1 _ hin, hf.2.2.2.2.2.2.2.1 _ hse⟩ ⟨cp_blind, va_recv hf.2.2.2.2.2.2.2.2.1.1 hW.2.1 hkc.1 hw, fun U hU hWm => ⟨rfl, cp_pre hf hT hW hS hU hWm⟩⟩ rfl (by rw [List.length_map]; exact hn) hl.1 (by rw [List.map_append, List.map_reverse]; rfl) (lv_room (by rw [cat_cv]; exact hc)) hd ⟨by rw [hz.1]; exact Nat.zero_le _, by rw [hz.2]; exact Nat.zero_le _⟩
  rw [hz.1, hz.2] at hr
  exact ax_back hXs hf hX hT hE hW hS hl ho (fun v hv => hs v (List.mem_append_right _ (List.mem_cons_of_mem _ hv))) hZ ht hr k
end AXR
noncomputable abbrev Ma : Mc_ := m_X11_about 12 1 6
theorem ax_thr {pc is_ : Nat} {text : String} {lv : List (Nat × Value)} {h : Hp_} {K : Option Value → Hp_ → Prop} {KX : Hp_ → Prop} (d0 : decode (mC Ma) pc = .ok (.new 306, 3)) (d3 : decode (mC Ma) (pc + 3) = .ok (.dup, 1)) (d4 : decode (mC Ma) (pc + 4) = .ok (.ldc_w is_, 3)) (d7 : decode (mC Ma) (pc + 7) = .ok (.invokespecial 310, 3)) (d10 : decode (mC Ma) (pc + 10) = .ok (.athrow, 1)) (hstr : ∀ (A : Nat → Prop) (s : State), Zx A s → ∃ sa, vk_R "CountyWatch" is_ text sa s) (kx : KX h) : AX Ma pc lv [] h K KX := by
  intro l p e s m args below meth c dC dI cy A ad0 adV ad dom0 dom H locs ls hf hX hT hE hW hS hl ho hs hZ ht
  obtain ⟨sa, hsa⟩ := hstr A s hZ
  have htg := hf.2.2.2.2.2.2.2.1
  refine tw13 (own := "CountyWatch") (cls := xE) (F := xF) (text := text) (names := xN) (ik := 306) (is := is_) (ic := 310) (sa := sa) (A := A) hf.1 hf.2.1 l.2 hf.2.2.2.2.2.1 (by decide +kernel) (by decide +kernel) (by decide +kernel) (htg _ tw_1669) (htg _ tw_25) hsa (fun w hw => va_tabs (ft_ot w hw) rfl (hZ.2.2.2.2 w hw)) ?_ hZ.1 hZ.2.1 hS (hl.1.trans hf.2.2.1.symm) d0 d3 d4 d7 d10 (fun x hx => (ht x hx).elim) (by decide) (Nat.le_of_ble_eq_true rfl) (by decide) (by decide) hf.2.2.2.2.1 (fun t1 hal hsz1 hkp1 => ⟨rfl, ⟨h, ad, dom, kx, wd_more hW hkp1, hE⟩, ?_⟩) hS.2.2 (by decide) (by decide)
  · intro w hw
    have hall : (Cond.classLink "CountyWatch" 306 xE :: Cond.initialized xE :: aE).all vx_ot = true := by decide +kernel
    exact List.all_eq_true.mp hall w hw
  · exact ⟨Nat.le_trans hS.1 hsz1, fun q h1 h2 => (hkp1 q (Nat.lt_of_lt_of_le h1 hS.1)).trans (hS.2.1 q h1 h2)⟩
noncomputable abbrev kA (h : Hp_) : Option Value → Hp_ → Prop := fun v h' => (∃ r : Int32, v = some (.int r)) ∧ Iv h' ∧ Fr [] h h'
theorem ab_ret {h h' : Hp_} (I : Iv h') (F : Fr [] h h') (c : Nat) (hc : Cn h' c) (x1 x2 : Int32) (b : 0 ≤ x2.toInt ∧ x2.toInt ≤ 8) : AW Ma 0 0 21 [(0, .ref 0), (1, .int x1), (2, .int x2), (3, .ref c)] [] h' (kA h) := by
  have en : ∀ {x y : Int32}, x.toInt = y.toInt → x = y := fun z => Int32.toInt_inj.mp z
  have hk : 0 ≤ (mR Ma).cells ∧ 0 ≤ (mR Ma).slots := ⟨Nat.zero_le _, Nat.zero_le _⟩
  refine aw_iload_n (i := 2) rfl d_X11_about_21 2 rfl ?_
  by_cases e0 : x2.toInt = 0
  · refine aw_tableIn (off := 50) (tgt := 72) d_X11_about_22 (by rw [e0]; decide) (by rw [e0]; decide) (by rw [e0]; rfl) rfl ?_
    refine aw_aload_n (i := 3) rfl d_X11_about_72 3 rfl ?_
    refine aw_geti (k0 := 4) kc_2 hc.2.2 (Nat.le_of_ble_eq_true rfl) tw_581 d_X11_about_73 rfl ?_
    exact aw_iret rfl d_X11_about_76 hk ⟨⟨_, rfl⟩, I, F⟩
  by_cases e1 : x2.toInt = 1
  · refine aw_tableIn (off := 55) (tgt := 77) d_X11_about_22 (by rw [e1]; decide) (by rw [e1]; decide) (by rw [e1]; rfl) rfl ?_
    refine aw_aload_n (i := 3) rfl d_X11_about_77 3 rfl ?_
    refine aw_geti (k0 := 5) kc_2 hc.2.2 (Nat.le_of_ble_eq_true rfl) tw_583 d_X11_about_78 rfl ?_
    exact aw_iret rfl d_X11_about_81 hk ⟨⟨_, rfl⟩, I, F⟩
  by_cases e2 : x2.toInt = 2
  · refine aw_tableIn (off := 60) (tgt := 82) d_X11_about_22 (by rw [e2]; decide) (by rw [e2]; decide) (by rw [e2]; rfl) rfl ?_
    refine aw_aload_n (i := 3) rfl d_X11_about_82 3 rfl ?_
    refine aw_geti (k0 := 6) kc_2 hc.2.2 (Nat.le_of_ble_eq_true rfl) tw_585 d_X11_about_83 rfl ?_
    exact aw_iret rfl d_X11_about_86 hk ⟨⟨_, rfl⟩, I, F⟩
  by_cases e3 : x2.toInt = 3
  · refine aw_tableIn (off := 65) (tgt := 87) d_X11_about_22 (by rw [e3]; decide) (by rw [e3]; decide) (by rw [e3]; rfl) rfl ?_
    refine aw_aload_n (i := 3) rfl d_X11_about_87 3 rfl ?_
    refine aw_geti (k0 := 7) kc_2 hc.2.2 (Nat.le_of_ble_eq_true rfl) tw_587 d_X11_about_88 rfl ?_
    exact aw_iret rfl d_X11_about_91 hk ⟨⟨_, rfl⟩, I, F⟩
  by_cases e4 : x2.toInt = 4
  · refine aw_tableIn (off := 70) (tgt := 92) d_X11_about_22 (by rw [e4]; decide) (by rw [e4]; decide) (by rw [e4]; rfl) rfl ?_
    refine aw_aload_n (i := 3) rfl d_X11_about_92 3 rfl ?_
    refine aw_geti (k0 := 4) kc_2 hc.2.2 (Nat.le_of_ble_eq_true rfl) tw_581 d_X11_about_93 rfl ?_
    refine aw_iconst (v := 1) d_X11_about_96 ic_1 ?_
    refine aw_icmp_ne (tgt := 107) d_X11_about_97 rfl (fun _ => ?_) (fun _ => ?_)
    · refine aw_iconst (v := (-1)) d_X11_about_107 ic_m1 ?_
      exact aw_iret rfl d_X11_about_108 hk ⟨⟨_, rfl⟩, I, F⟩
    · refine aw_aload_n (i := 3) rfl d_X11_about_100 3 rfl ?_
      refine aw_geti (k0 := 9) kc_2 hc.2.2 (Nat.le_of_ble_eq_true rfl) tw_589 d_X11_about_101 rfl ?_
      refine aw_goto (tgt := 108) d_X11_about_104 rfl ?_
      exact aw_iret rfl d_X11_about_108 hk ⟨⟨_, rfl⟩, I, F⟩
  by_cases e5 : x2.toInt = 5
  · refine aw_tableIn (off := 87) (tgt := 109) d_X11_about_22 (by rw [e5]; decide) (by rw [e5]; decide) (by rw [e5]; rfl) rfl ?_
    refine aw_aload_n (i := 3) rfl d_X11_about_109 3 rfl ?_
    refine aw_geti (k0 := 15) kc_2 hc.2.2 (Nat.le_of_ble_eq_true rfl) tw_597 d_X11_about_110 rfl ?_
    exact aw_iret rfl d_X11_about_113 hk ⟨⟨_, rfl⟩, I, F⟩
  by_cases e6 : x2.toInt = 6
  · refine aw_tableIn (off := 92) (tgt := 114) d_X11_about_22 (by rw [e6]; decide) (by rw [e6]; decide) (by rw [e6]; rfl) rfl ?_
    refine aw_aload_n (i := 3) rfl d_X11_about_114 3 rfl ?_
    refine aw_geti (k0 := 16) kc_2 hc.2.2 (Nat.le_of_ble_eq_true rfl) tw_598 d_X11_about_115 rfl ?_
    exact aw_iret rfl d_X11_about_118 hk ⟨⟨_, rfl⟩, I, F⟩
  by_cases e7 : x2.toInt = 7
  · refine aw_tableIn (off := 97) (tgt := 119) d_X11_about_22 (by rw [e7]; decide) (by rw [e7]; decide) (by rw [e7]; rfl) rfl ?_
    refine aw_aload_n (i := 3) rfl d_X11_about_119 3 rfl ?_
    refine aw_geti (k0 := 2) kc_2 hc.2.2 (Nat.le_of_ble_eq_true rfl) tw_577 d_X11_about_120 rfl ?_
    exact aw_iret rfl d_X11_about_123 hk ⟨⟨_, rfl⟩, I, F⟩
  by_cases e8 : x2.toInt = 8
  · refine aw_tableIn (off := 102) (tgt := 124) d_X11_about_22 (by rw [e8]; decide) (by rw [e8]; decide) (by rw [e8]; rfl) rfl ?_
    refine aw_aload_n (i := 3) rfl d_X11_about_124 3 rfl ?_
    refine aw_geti (k0 := 3) kc_2 hc.2.2 (Nat.le_of_ble_eq_true rfl) tw_579 d_X11_about_125 rfl ?_
    exact aw_iret rfl d_X11_about_128 hk ⟨⟨_, rfl⟩, I, F⟩
  omega
theorem ax_about {h : Hp_} (I : Iv h) (x1 x2 : Int32) : AX Ma 0 [(0, .ref 0), (1, .int x1), (2, .int x2)] [] h (kA h) (fun h' => Iv h' ∧ Fr [] h h') := by
  refine ax_aload_n (i := 0) rfl d_X11_about_0 0 rfl ?_
  refine ax_iload_n (i := 1) rfl d_X11_about_1 1 rfl ?_
  have C : Ct (m_X11_manOf (10 + 1) 0 0) [.ref 0, .int x1] h (Kc [] h (some (.inr 2)) []) := hc_X11_manOf 10 [.int x1, .ref 0] h ⟨⟨x1, rfl, rtop_in _, fun _ y => (nomatch y)⟩, rfl, trivial⟩ I (fun _ y => (nomatch y))
  refine ax_callV (vs := [.int x1]) (rest := []) (a := 0) (M' := m_X11_manOf (10 + 1) 0 0) d_X11_about_2 (cV_X11_manOf (10 + 1) 0 0).1 kc_11 (ws_0 I.1) (cV_X11_manOf (10 + 1) 0 0).2.1 (cV_X11_manOf (10 + 1) 0 0).2.2 tw_904 rfl ⟨Nat.le_of_ble_eq_true rfl, Nat.le_of_ble_eq_true rfl⟩ (Nat.le_of_ble_eq_true rfl) ⟨rfl, rfl⟩ xs0 C (fun v h' kv => ?_)
  obtain ⟨I', F', _, x, ev, hx⟩ := kv
  subst ev
  have hx : x = .null ∨ ∃ c, x = .ref c ∧ Cn h' c := hx
  rcases hx with e | ⟨c, e, hc⟩
  · subst e
    refine ax_astore_nN (i := 3) rfl [(0, .ref 0), (1, .int x1), (2, .int x2), (3, .null)] d_X11_about_5 (Nat.le_of_ble_eq_true rfl) rfl rfl ?_
    refine ax_aload_nN (i := 3) rfl d_X11_about_6 3 rfl ?_
    refine ax_ifnonnullN d_X11_about_7 ?_
    exact ax_thr d_X11_about_10 d_X11_about_13 d_X11_about_14 d_X11_about_17 d_X11_about_20 (fun A s z => z.2.2.1) ⟨I', F'⟩
  · subst e
    refine ax_astore_n (i := 3) rfl [(0, .ref 0), (1, .int x1), (2, .int x2), (3, .ref c)] d_X11_about_5 (Nat.le_of_ble_eq_true rfl) rfl rfl ?_
    refine ax_aload_n (i := 3) rfl d_X11_about_6 3 rfl ?_
    refine ax_ifnonnull (tgt := 21) d_X11_about_7 rfl ?_
    by_cases b : 0 ≤ x2.toInt ∧ x2.toInt ≤ 8
    · exact ax_ret (ab_ret I' F' c hc x1 x2 b)
    · refine ax_iload_n (i := 2) rfl d_X11_about_21 2 rfl ?_
      refine ax_tableOut (tgt := 129) d_X11_about_22 (by omega) rfl ?_
      exact ax_thr d_X11_about_129 d_X11_about_132 d_X11_about_133 d_X11_about_136 d_X11_about_139 (fun A s z => z.2.2.2.1) ⟨I', F'⟩
theorem dom_h {dom : List Nat} {h : Hp_} (hd : ∀ a, h_sh h a ≠ none ↔ a ∈ dom) {a : Nat} {x : Nat × Nat} (hs : h_sh h a = some x) : a ∈ dom := (hd a).mp (by rw [hs]; exact fun z => by cases z)
theorem xa_about (l : Ln_) (dC : Nat → ClassId) (dI : Nat → Nat → Nat) (cy : Nat → ClassId) (ad adV : Nat → Nat) (dom : List Nat) (sz : Nat) {h : Hp_} (I : Iv h) (hdm : dom.Nodup ∧ (∀ a, h_sh h a ≠ none ↔ a ∈ dom) ∧ (∀ a ∈ dom, a < 1000) ∧ ∀ b k c, h_r h b k = some c → c ∈ dom ∨ 1000 ≤ c) (x1 x2 : Int32) :
    vx_Met l.1 (mY Ma) (Cond.code (mY Ma) (mC Ma) 4 (some .int) :: lw_g) (mR Ma) (va_Pc ([Value.ref 0, .int x1, .int x2].map (h_cv ad)) (cz_ dC dI cy ad adV dom h sz)) (qq_ (kA h) dC dI cy (va_A (h_W cy ad h dom) sz) ad dom) (xx_ (fun h' => Iv h' ∧ Fr [] h h') dC dI cy (va_A (h_W cy ad h dom) sz) ad dom) 1 6 (va_A (h_W cy ad h dom) sz) := by
  refine vx_ofW (cc := mC Ma) (maxL := 4) (ret := some .int) rfl rfl ?_
  intro p e s m args below meth c s₁ B hml htab hv0
  obtain ⟨rfl, ⟨hsz, hP, hD0, hcx, hst⟩, hz⟩ := hv0
  have hts := atoms_spec (ws := Cond.code (mY Ma) (mC Ma) 4 (some .int) :: lw_g) B.pre
  have htg : ∀ w ∈ lw_g, w.before _ s = true := fun w hw => hts w (List.mem_cons_of_mem _ hw)
  have hown : s.vm.findClass "CountyWatch" = some m.cls := findClass_of_methodNamed B.named
  have hnm : meth.name = "about" := (name_of_methodNamed B.named B.method).1
  subst hsz
  have hD := hD0.self (sz := s.heap.size)
  have hl := lv_entry ([Value.ref 0, .int x1, .int x2].map (h_cv ad)) (n := 4) (Nat.le_of_ble_eq_true rfl)
  rw [lg_entry_eq]
  generalize (lg_sl ([Value.ref 0, .int x1, .int x2].map (h_cv ad)) ++ List.replicate (4 - (lg_sl ([Value.ref 0, .int x1, .int x2].map (h_cv ad))).length) Slot.unset).toArray = ls at hl ⊢
  have hl : lv_has ls 4 [(0, .ref (ad 0)), (1, .int x1), (2, .int x2)] := hl
  exact ax_about I x1 x2 l p e s m _ below meth c dC dI cy (va_A (h_W cy ad h dom) s.heap.size) ad adV ad dom dom s.heap [] ls ⟨B.exec, B.bytes, hml, B.returns, B.notSynchronized, hown, hnm, htg, hcx, fun q hq => Or.inr hq⟩ trivial hst ⟨fun _ _ => rfl, fun _ ha => ha⟩ ⟨hdm, hP, hD⟩ va_S.rf hl (fun q hq => by
    rcases List.mem_cons.mp hq with z | hq
    · rw [z]; intro c hc; cases hc; exact Or.inl (dom_h hdm.2.1 (ws_0 I.1))
    · rcases List.mem_cons.mp hq with z | hq
      · rw [z]; exact ok_i
      · rw [List.mem_singleton.mp hq]; exact ok_i) (fun v hv => by cases hv) hz htab
noncomputable abbrev yLa : MethodName := ⟨"CountyWatchLaw", "about", "(LCountyWatch;II[J)I"⟩
noncomputable abbrev RLa : Room := { frames := 20, cells := 1, slots := 6, locals := 2000 }
noncomputable abbrev wLa : Cond := Cond.codeWith yLa method_3_code 5 (some .int) [(0, 10, 13, 13)]
noncomputable abbrev mLa : Mc_ := (fun _ _ _ => True, yLa, method_3_code, 5, some .int, RLa)
noncomputable def kLa (h : Hp_) : Option Value → Hp_ → Prop := fun v h' => (∃ r : Int32, v = some (.int r)) ∧ Iv h' ∧ Fr [2999] h h'
theorem d_La_0 : decode method_3_code 0 = .ok (.aload_n 3, 1) := by decide +kernel
theorem d_La_1 : decode method_3_code 1 = .ok (.iconst 0, 1) := by decide +kernel
theorem d_La_2 : decode method_3_code 2 = .ok (.aload_n 0, 1) := by decide +kernel
theorem d_La_3 : decode method_3_code 3 = .ok (.iload_n 1, 1) := by decide +kernel
theorem d_La_4 : decode method_3_code 4 = .ok (.iload_n 2, 1) := by decide +kernel
theorem d_La_5 : decode method_3_code 5 = .ok (.invokevirtual 7, 3) := by decide +kernel
theorem d_La_8 : decode method_3_code 8 = .ok (.i2l, 1) := by decide +kernel
theorem d_La_9 : decode method_3_code 9 = .ok (.lastore, 1) := by decide +kernel
theorem d_La_10 : decode method_3_code 10 = .ok (.goto 7, 3) := by decide +kernel
theorem d_La_13 : decode method_3_code 13 = .ok (.astore 4, 2) := by decide +kernel
theorem d_La_15 : decode method_3_code 15 = .ok (.iconst 1, 1) := by decide +kernel
theorem d_La_16 : decode method_3_code 16 = .ok (.ireturn, 1) := by decide +kernel
theorem d_La_17 : decode method_3_code 17 = .ok (.iconst 0, 1) := by decide +kernel
theorem d_La_18 : decode method_3_code 18 = .ok (.ireturn, 1) := by decide +kernel
theorem la_ret {h h' : Hp_} (I' : Iv h') (F' : Fr [] h h') (s2 : h_sh h 2 = some (3, 1)) (x1 x2 r : Int32) : AW mLa 1 6 8 [(0, .ref 0), (1, .int x1), (2, .int x2), (3, .ref 2)] [.int r, .int 0, .ref 2] h' (kLa h) := by
  refine aw_i2l d_La_8 ?_
  refine aw_last (n := 1) (by rw [F'.1]; exact s2) (vin_c (by decide)) d_La_9 ?_
  refine aw_goto (tgt := 17) d_La_10 rfl ?_
  refine aw_iconst (v := 0) d_La_17 ic_0 ?_
  exact aw_iret rfl d_La_18 ⟨Nat.le_refl _, Nat.le_refl _⟩ ⟨⟨0, rfl⟩, I'.lm, (F'.more (by decide +kernel)).lm (inw_row (by decide +kernel) _)⟩
theorem xl_about (l : Ln_) (dC : Nat → ClassId) (dI : Nat → Nat → Nat) (cy : Nat → ClassId) (ad adV : Nat → Nat) (dom : List Nat) (sz : Nat) {h : Hp_} (I : Iv h) (s2 : h_sh h 2 = some (3, 1)) (hdm : dom.Nodup ∧ (∀ a, h_sh h a ≠ none ↔ a ∈ dom) ∧ (∀ a ∈ dom, a < 1000) ∧ ∀ b k c, h_r h b k = some c → c ∈ dom ∨ 1000 ≤ c) (x1 x2 : Int32) :
    vx_Met l.1 yLa (wLa :: lw_g) RLa (va_Pc ([Value.ref 0, .int x1, .int x2, .ref 2].map (h_cv ad)) (cz_ dC dI cy ad adV dom h sz)) (qq_ (kLa h) dC dI cy (va_A (h_W cy ad h dom) sz) ad dom) (fun _ _ _ => False) 1 6 (va_A (h_W cy ad h dom) sz) := by
  refine vx_ofWH (cc := method_3_code) (maxL := 5) (ret := some .int) (hh := [(0, 10, 13, 13)]) rfl rfl ?_
  intro p e s m args below meth c s₁ B hml hv0
  obtain ⟨rfl, ⟨hsz, hP, hD0, hcx, hst⟩, hz⟩ := hv0
  have hts := atoms_spec (ws := wLa :: lw_g) B.pre
  have htg : ∀ w ∈ lw_g, w.before _ s = true := fun w hw => hts w (List.mem_cons_of_mem _ hw)
  have hown : s.vm.findClass "CountyWatchLaw" = some m.cls := findClass_of_methodNamed B.named
  have hnm : meth.name = "about" := (name_of_methodNamed B.named B.method).1
  have htbl : c.exceptionTable.toList = tableOf [(0, 10, 13, 13)] := vx_table (x := yLa) B (hts _ List.mem_cons_self)
  subst hsz
  have hD := hD0.self (sz := s.heap.size)
  have hl := lv_entry ([Value.ref 0, .int x1, .int x2, .ref 2].map (h_cv ad)) (n := 5) (Nat.le_of_ble_eq_true rfl)
  rw [lg_entry_eq]
  generalize (lg_sl ([Value.ref 0, .int x1, .int x2, .ref 2].map (h_cv ad)) ++ List.replicate (5 - (lg_sl ([Value.ref 0, .int x1, .int x2, .ref 2].map (h_cv ad))).length) Slot.unset).toArray = ls at hl ⊢
  have hl : lv_has ls 5 [(0, .ref (ad 0)), (1, .int x1), (2, .int x2), (3, .ref (ad 2))] := hl
  have hW : wd_ dC dI cy (va_A (h_W cy ad h dom) s.heap.size) ad dom h s.heap := ⟨hdm, hP, hD⟩
  have hS : va_S (va_A (h_W cy ad h dom) s.heap.size) s.heap s.heap [] := va_S.rf
  have hf : fr_ yLa method_3_code 5 (some .int) p s m _ meth c dC dI cy (va_A (h_W cy ad h dom) s.heap.size) := ⟨B.exec, B.bytes, hml, B.returns, B.notSynchronized, hown, hnm, htg, hcx, fun q hq => Or.inr hq⟩
  have m0 : (0 : Nat) ∈ dom := dom_h hdm.2.1 (ws_0 I.1)
  have m2 : (2 : Nat) ∈ dom := dom_h hdm.2.1 s2
  refine lv_aload_n B.exec B.bytes d_La_0 rfl (hl.2.2 (3, .ref (ad 2)) (by simp)) ?_
  refine lv_iconst B.exec B.bytes d_La_1 ic_0 ?_
  refine lv_aload_n B.exec B.bytes d_La_2 rfl (hl.2.2 (0, .ref (ad 0)) List.mem_cons_self) ?_
  refine lv_iload_n B.exec B.bytes d_La_3 rfl (hl.2.2 (1, .int x1) (by simp)) ?_
  refine lv_iload_n B.exec B.bytes d_La_4 rfl (hl.2.2 (2, .int x2) (by simp)) ?_
  obtain ⟨q, hq, hw⟩ := h_W_get (cy := cy) (ad := ad) (h := h) m0
  rw [h_ce_obj (ci := 11) (n := 16) (ws_0 I.1)] at hw
  have hm := cV_X11_about 12 1 6
  have hsub : ∀ z, va_A (h_W cy ad h dom) s.heap.size z → va_A (h_W cy ad h dom) s.heap.size z := fun _ z => z
  have hr := vx_runV (l := l.1) (e := e) (below := below) (meth := meth) (locs := []) (cells := 0) (slots := 0) (R := RLa) (m := m) (g := F0 m 5 ls [.int x2, .int x1, .ref (ad 0), .int 0, .ref (ad 2)]) (rest := [.int 0, .ref (ad 2)]) (As := [Value.int x1, .int x2]) ⟨B.exec, B.bytes, hml, hown, htg⟩ (xa_about l dC dI cy ad adV dom s.heap.size I hdm x1 x2) ⟨cb_ htg hm.1 tw_1665 ⟨by decide, by decide⟩, htg _ hm.2.1, htg _ hm.2.2⟩ ⟨cz_blind, va_recv hcx.1 hP kc_11.1 hw, fun U hU hWm => ⟨rfl, cp_pre hf hst hW hS hU hWm, hz.go hS hU hWm hsub⟩⟩ rfl rfl hl.1 rfl (lv_room (Nat.le_of_ble_eq_true rfl)) d_La_5 ⟨by decide, by decide⟩
  intro T hT0 X
  rcases hr T hT0 X with ⟨v, st₀, t, T', L, h0, X', hL, e1, e2, ⟨⟨v', h', ad', dom', hv, ⟨⟨r, er⟩, I', F'⟩, hW', hov', hE'⟩, hz1, hkp⟩, stp⟩ | ⟨q9, st₀, t, T', L, E, ce, h0, X', hL, e1, e2, ⟨rfl, ⟨h', ad', dom', ⟨I', F'⟩, hW', hE'⟩, hz1, hkp⟩, hce, hcv, hcl, st⟩
  · cases hv
    subst er
    rw [h0] at hz1 hkp
    have hS1 : va_S (va_A (h_W cy ad h dom) s.heap.size) s.heap T'.heap ([] ++ L) := ⟨by rw [e1]; exact hz1, fun q h1 h2 => by rw [e1]; exact hkp q h1 h2, fun q hq => hL q (by simpa using hq)⟩
    have hW1 : wd_ dC dI cy (va_A (h_W cy ad h dom) s.heap.size) ad' dom' h' T'.heap := by rw [e1]; exact hW'
    have he : ∀ a, 1000 ≤ a → ad' a = ad a := fun a ha => hE'.1 a (Or.inr ha)
    have a0 : ad' 0 = ad 0 := hE'.1 0 (Or.inl m0)
    have a2 : ad' 2 = ad 2 := hE'.1 2 (Or.inl m2)
    have hl1 : lv_has ls 5 ([(0, Value.ref 0), (1, .int x1), (2, .int x2), (3, .ref 2)].map (fun q => (q.1, h_cv ad' q.2))) := by
      show lv_has ls 5 [(0, .ref (ad' 0)), (1, .int x1), (2, .int x2), (3, .ref (ad' 2))]
      rw [a0, a2]; exact hl
    have o0 : h_ok dom' (.ref 0) := fun c hc => by cases hc; exact Or.inl (hE'.2 _ m0)
    have o2 : h_ok dom' (.ref 2) := fun c hc => by cases hc; exact Or.inl (hE'.2 _ m2)
    have k := la_ret I' F' s2 x1 x2 r l p e s m ([Value.ref 0, .int x1, .int x2, .ref 2].map (h_cv ad)).toArray below meth c dC dI cy (va_A (h_W cy ad h dom) s.heap.size) ad adV ad' dom dom' T'.heap ([] ++ L) ls hf trivial (st_same he hst) hE' hW1 hS1 hl1 (fun q hq => by
      rcases List.mem_cons.mp hq with z | hq
      · rw [z]; exact o0
      · rcases List.mem_cons.mp hq with z | hq
        · rw [z]; exact ok_i
        · rcases List.mem_cons.mp hq with z | hq
          · rw [z]; exact ok_i
          · rw [List.mem_singleton.mp hq]; exact o2) (ok_c ok_i (ok_c ok_i (ok_c o2 (fun v hv => by cases hv))))
    obtain ⟨t2, a1, b1⟩ := vx_ret (XC := fun _ _ _ => False) k T' rfl X'
    refine ⟨t2, stp t2 ?_, b1⟩
    have a1 : Steps p.tables e below (T'.setTop (F0 m 8 ls [.int r, .int 0, .ref (ad' 2)])) t2 := a1
    rw [a2] at a1
    exact a1
  · rw [h0] at hz1 hkp
    have hS1 : va_S (va_A (h_W cy ad h dom) s.heap.size) s.heap T'.heap ([] ++ L) := ⟨by rw [e1]; exact hz1, fun q h1 h2 => by rw [e1]; exact hkp q h1 h2, fun q hq => hL q (by simpa using hq)⟩
    have hW1 : wd_ dC dI cy (va_A (h_W cy ad h dom) s.heap.size) ad' dom' h' T'.heap := by rw [e1]; exact hW'
    have hca : (Cond.castable xE xE).before #[] s = true := hz.2.2.2.2 _ (by decide +kernel)
    have key : vx_W p l.1 e RLa s m ([Value.ref 0, .int x1, .int x2, .ref 2].map (h_cv ad)).toArray below meth c T'.heap ([] ++ L) (0 + 1) (0 + 6) (vx_MQ below (qq_ (kLa h) dC dI cy (va_A (h_W cy ad h dom) s.heap.size) ad dom) (fun _ _ _ => False) ([Value.ref 0, .int x1, .int x2, .ref 2].map (h_cv ad)).toArray s 1 6 (va_A (h_W cy ad h dom) s.heap.size)) (F0 m 5 ls [.int 0, .ref (ad 2)]) q9 := by
      refine vx_catch (own := "CountyWatchLaw") (name := xE) (E := xE) (ce := ce) hown [] ⟨0, 10, 13, 13⟩ [] (by rw [htbl]; rfl) (fun z hz => by cases hz) (by decide) (by decide) (htg _ tw_1664) (va_tabs rfl rfl hca) (by rw [e1]; exact hce) hcv hcl ?_
      refine lv_astore B.exec B.bytes d_La_13 hl (by decide) rfl (fun ls' hl' => ?_)
      refine lv_iconst B.exec B.bytes d_La_15 ic_1 ?_
      refine vx_ret ?_
      exact W.iret B.exec B.bytes B.returns (fun t1 ht _ => ⟨⟨some (.int 1), h', ad', dom', rfl, ⟨⟨1, rfl⟩, I', F'.more (by decide +kernel)⟩, by rw [ht]; exact hW1, fun _ hx => by cases hx; exact ok_i, hE'⟩, hS1.F ht⟩) hS1.2.2 d_La_16 B.notSynchronized
    obtain ⟨t2, a1, b1⟩ := key T' rfl X'
    exact ⟨t2, st.trans a1, b1⟩
theorem xl_met (l : Ln_) (dC : Nat → ClassId) (dI : Nat → Nat → Nat) (cy : Nat → ClassId) (ad adV : Nat → Nat) (dom : List Nat) (sz : Nat) {h : Hp_} (I : Iv h) (s2 : h_sh h 2 = some (3, 1)) (hdm : dom.Nodup ∧ (∀ a, h_sh h a ≠ none ↔ a ∈ dom) ∧ (∀ a ∈ dom, a < 1000) ∧ ∀ b k c, h_r h b k = some c → c ∈ dom ∨ 1000 ≤ c) (x1 x2 : Int32) :
    Met l.1 yLa (wLa :: lw_g) RLa (va_Pc ([Value.ref 0, .int x1, .int x2, .ref 2].map (h_cv ad)) (cz_ dC dI cy ad adV dom h sz)) (qq_ (kLa h) dC dI cy (va_A (h_W cy ad h dom) sz) ad dom) 1 6 (va_A (h_W cy ad h dom) sz) := by
  intro p e ha hc hk s m args below hf hp hP hT
  obtain ⟨k, o, h1, h2, h3, h4⟩ := xl_about l dC dI cy ad adV dom sz I s2 hdm x1 x2 p e ha hc hk s m args below hf hp hP hT
  rcases h4 with h4 | ⟨q, _, E, ce, L, hbad, _⟩
  · exact ⟨k, o, h1, h2, h3, h4⟩
  · exact hbad.elim
end
