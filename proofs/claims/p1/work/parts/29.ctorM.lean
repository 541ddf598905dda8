set_option maxRecDepth 100000 in
def CH_1 (h : Hp_) : Hp_ := h_im (h_im (h_im (h_im (h_im (h_im (h_im (h_im (h_im (h_rm (h_nw (h_rm (h_nw (h_rm (h_nw (h_rm (h_nw (h_rm (h_nw (h_rm (h_nw (h_rm (h_nw (h_rm (h_nw (h_rm (h_nw (h_rm (h_nw (h_rm (h_nw (h_rm (h_nw (h_rm (h_nw (h_rm (h_nw (h_rm (h_nw (h_rm (h_nw (h_rm (h_nw (h_rm (h_nw (h_rm (h_nw (h_rm (h_nw (h_im (h_rm (h_nw (h_rm (h_nw (h_rm (h_nw (h_rm (h_nw (h_rm (h_nw (h_rm (h_nw (h_rm (h_nw (h_rm (h_nw (h_rm (h_nw (h_rm (h_nw (h_rm (h_nw (h_rm (h_nw (h_rm (h_nw (h_rm (h_nw (h_rm (h_nw (h_rm (h_nw (h_rm (h_nw (h_rm (h_nw (h_rm (h_nw (h_rm (h_nw (h_rm (h_nw (h_rm (h_nw (h_rm (h_nw (h_rm (h_nw (h_rm (h_nw (h_rm (h_nw (h_rm (h_nw (h_rm (h_nw (h_rm (h_nw (h_rm (h_nw (h_rm (h_nw (h_rm (h_nw (h_rm (h_nw (h_rm (h_nw (h_rm (h_nw (h_rm (h_nw (h_rm (h_nw (h_rm (h_nw (h_rm (h_nw (h_rm (h_nw (h_rm (h_nw (h_rm (h_nw (h_rm (h_nw (h_rm (h_nw (h_rm (h_nw (h_rm (h_nw (h_rm (h_nw (h_rm (h_nw (h_rm (h_nw (h_rm (h_nw (h_rm (h_nw (h_rm (h_nw (h_rm (h_nw (h_rm (h_nw (h_rm (h_nw (h_rm (h_nw (h_rm (h_nw (h_rm (h_nw (h_rm (h_nw (h_rm (h_nw (h_rm (h_nw (h_rm (h_nw (h_rm (h_nw (h_rm (h_nw (h_rm (h_nw (h_rm (h_nw (h_rm (h_nw (h_rm (h_nw (h_rm (h_nw (h_rm (h_nw (h_rm (h_nw (h_rm (h_nw (h_rm (h_nw (h_rm (h_nw (h_rm (h_nw (h_rm (h_nw (h_rm (h_nw (h_rm (h_nw (h_rm (h_nw (h_rm (h_nw h 200 0 40) 1 2 (some 200)) 201 0 40) 1 3 (some 201)) 202 0 40) 1 4 (some 202)) 203 0 16) 1 5 (some 203)) 204 0 12) 1 8 (some 204)) 205 0 12) 1 9 (some 205)) 206 0 12) 1 10 (some 206)) 207 0 12) 1 11 (some 207)) 208 0 12) 1 12 (some 208)) 209 0 12) 1 13 (some 209)) 210 0 12) 1 14 (some 210)) 211 0 12) 1 15 (some 211)) 212 0 12) 1 16 (some 212)) 213 0 12) 1 17 (some 213)) 214 0 12) 1 18 (some 214)) 215 0 12) 1 19 (some 215)) 216 0 12) 1 20 (some 216)) 217 0 12) 1 21 (some 217)) 218 0 12) 1 22 (some 218)) 219 0 12) 1 23 (some 219)) 220 2 240012) 1 24 (some 220)) 221 0 40) 1 25 (some 221)) 222 0 40) 1 26 (some 222)) 223 0 40) 1 27 (some 223)) 224 0 40) 1 28 (some 224)) 225 0 160) 1 30 (some 225)) 226 0 560) 1 31 (some 226)) 227 0 12) 1 38 (some 227)) 228 0 1800) 1 39 (some 228)) 229 0 1800) 1 40 (some 229)) 230 0 1800) 1 41 (some 230)) 231 0 22400) 1 45 (some 231)) 232 0 40) 1 46 (some 232)) 233 0 40) 1 47 (some 233)) 234 0 40) 1 48 (some 234)) 235 0 2) 1 49 (some 235)) 236 0 128) 1 50 (some 236)) 237 0 200) 1 51 (some 237)) 238 0 400) 1 53 (some 238)) 239 0 400) 1 54 (some 239)) 240 0 400) 1 55 (some 240)) 241 0 400) 1 56 (some 241)) 242 0 400) 1 57 (some 242)) 243 0 400) 1 58 (some 243)) 244 0 400) 1 59 (some 244)) 245 0 200) 1 60 (some 245)) 246 0 200) 1 61 (some 246)) 247 0 200) 1 62 (some 247)) 248 1 12) 1 65 (some 248)) 249 0 80) 1 66 (some 249)) 250 0 80) 1 67 (some 250)) 251 0 80) 1 68 (some 251)) 252 0 80) 1 69 (some 252)) 253 0 80) 1 70 (some 253)) 254 1 80) 1 71 (some 254)) 255 0 300) 1 72 (some 255)) 256 0 300) 1 73 (some 256)) 257 0 300) 1 74 (some 257)) 258 0 300) 1 75 (some 258)) 259 0 300) 1 76 (some 259)) 260 0 300) 1 77 (some 260)) 261 0 2700) 1 78 (some 261)) 262 0 30) 1 81 (some 262)) 263 0 30) 1 82 (some 263)) 264 0 10) 1 83 (some 264)) 265 0 8) 1 84 (some 265)) 266 0 200) 1 85 (some 266)) 267 0 200) 1 86 (some 267)) 268 0 200) 1 87 (some 268)) 269 0 200) 1 88 (some 269)) 270 1 200) 1 89 (some 270)) 271 0 16) 1 90 (some 271)) 272 1 16) 1 91 (some 272)) 273 0 180) 1 92 (some 273)) 274 0 180) 1 93 (some 274)) 275 0 180) 1 94 (some 275)) 276 0 30) 1 95 (some 276)) 277 0 30) 1 98 (some 277)) 278 0 8) 1 99 (some 278)) 279 0 8) 1 100 (some 279)) 1 103 3) 280 0 2304) 1 104 (some 280)) 281 0 8) 1 105 (some 281)) 282 0 8) 1 106 (some 282)) 283 0 8) 1 107 (some 283)) 284 0 5) 1 109 (some 284)) 285 0 5) 1 110 (some 285)) 286 0 5) 1 111 (some 286)) 287 0 5) 1 112 (some 287)) 288 0 4) 1 116 (some 288)) 289 0 4) 1 117 (some 289)) 290 0 4) 1 118 (some 290)) 291 0 3328) 1 120 (some 291)) 292 0 48) 1 121 (some 292)) 293 0 372) 1 122 (some 293)) 294 0 600) 1 123 (some 294)) 295 0 600) 1 124 (some 295)) 296 0 600) 1 125 (some 296)) 297 0 600) 1 126 (some 297)) 298 0 48) 1 128 (some 298)) 299 1 48) 1 129 (some 299)) 1 130 3) 265 (0 : Int32).toNatClampNeg 1) 265 (1 : Int32).toNatClampNeg 1) 265 (2 : Int32).toNatClampNeg 1) 265 (3 : Int32).toNatClampNeg 1) 265 (4 : Int32).toNatClampNeg 1) 265 (5 : Int32).toNatClampNeg 1) 265 (6 : Int32).toNatClampNeg 1) 265 (7 : Int32).toNatClampNeg 1
set_option maxRecDepth 100000 in
theorem k_X12_init_1 (d : Nat) (h : Hp_) (hs : h_sh h 1 = some (22, 131)) (hn : ∀ a, 200 ≤ a → a < 300 → h_sh h a = none) : Cv (m_X12_init (d + 1) 100 288204) [.ref 1] h (fun h' => h' = CH_1 h) := by
  refine Ct.of (fun _ _ _ => trivial) rfl (Nat.le_of_ble_eq_true rfl) ?_
  show AW (m_X12_init (d + 1) 100 288204) 0 0 0 [(0, .ref 1)] [] h (kV _)
  refine aw_aload_n (i := 0) rfl d_X12_init_0 0 rfl ?_
  refine aw_objInit (rest := []) d_X12_init_1 tw_1740 tw_33 tw_34 (show 1 ≤ d + 1 by omega) (show 0 + 12 ≤ 100 * (d + 1) by omega) ?_
  refine aw_aload_n (i := 0) rfl d_X12_init_4 0 rfl ?_
  refine aw_bipush (v := 40) d_X12_init_5 ib_40 ?_
  refine aw_newa (t := 0) (atype := .int) 200 40 (by decide) rfl tw_51 (hn 200 (by decide) (by decide)) (by decide) xs0 (by decide) (by decide) (by decide) (Nat.le_of_ble_eq_true rfl) (Nat.le_of_ble_eq_true rfl) d_X12_init_7 ?_
  refine aw_putrF (k0 := 2) kc_12 (ss_n hs (by decide)) (Nat.le_of_ble_eq_true rfl) tw_1744 d_X12_init_9 rfl rfl rfl rfl ?_
  have hs1 := ss_step (k := 200) (t := 0) (n := 40) (c' := 1) (s := 2) (r := some 200) hs (by decide)
  have hn2 := nn_step (k := 200) (t := 0) (n := 40) (c := 1) (s := 2) (r := some 200) hn
  refine aw_aload_n (i := 0) rfl d_X12_init_12 0 rfl ?_
  refine aw_bipush (v := 40) d_X12_init_13 ib_40 ?_
  refine aw_newa (t := 0) (atype := .int) 201 40 (by decide) rfl tw_51 (hn2 201 (by decide) (by decide)) (by decide) xs0 (by decide) (by decide) (by decide) (Nat.le_of_ble_eq_true rfl) (Nat.le_of_ble_eq_true rfl) d_X12_init_15 ?_
  refine aw_putrF (k0 := 3) kc_12 (ss_n hs1 (by decide)) (Nat.le_of_ble_eq_true rfl) tw_1745 d_X12_init_17 rfl rfl rfl rfl ?_
  have hs3 := ss_step (k := 201) (t := 0) (n := 40) (c' := 1) (s := 3) (r := some 201) hs1 (by decide)
  have hn4 := nn_step (k := 201) (t := 0) (n := 40) (c := 1) (s := 3) (r := some 201) hn2
  refine aw_aload_n (i := 0) rfl d_X12_init_20 0 rfl ?_
  refine aw_bipush (v := 40) d_X12_init_21 ib_40 ?_
  refine aw_newa (t := 0) (atype := .int) 202 40 (by decide) rfl tw_51 (hn4 202 (by decide) (by decide)) (by decide) xs0 (by decide) (by decide) (by decide) (Nat.le_of_ble_eq_true rfl) (Nat.le_of_ble_eq_true rfl) d_X12_init_23 ?_
  refine aw_putrF (k0 := 4) kc_12 (ss_n hs3 (by decide)) (Nat.le_of_ble_eq_true rfl) tw_1746 d_X12_init_25 rfl rfl rfl rfl ?_
  have hs5 := ss_step (k := 202) (t := 0) (n := 40) (c' := 1) (s := 4) (r := some 202) hs3 (by decide)
  have hn6 := nn_step (k := 202) (t := 0) (n := 40) (c := 1) (s := 4) (r := some 202) hn4
  refine aw_aload_n (i := 0) rfl d_X12_init_28 0 rfl ?_
  refine aw_bipush (v := 16) d_X12_init_29 ib_16 ?_
  refine aw_newa (t := 0) (atype := .int) 203 16 (by decide) rfl tw_51 (hn6 203 (by decide) (by decide)) (by decide) xs0 (by decide) (by decide) (by decide) (Nat.le_of_ble_eq_true rfl) (Nat.le_of_ble_eq_true rfl) d_X12_init_31 ?_
  refine aw_putrF (k0 := 5) kc_12 (ss_n hs5 (by decide)) (Nat.le_of_ble_eq_true rfl) tw_1747 d_X12_init_33 rfl rfl rfl rfl ?_
  have hs7 := ss_step (k := 203) (t := 0) (n := 16) (c' := 1) (s := 5) (r := some 203) hs5 (by decide)
  have hn8 := nn_step (k := 203) (t := 0) (n := 16) (c := 1) (s := 5) (r := some 203) hn6
  refine aw_aload_n (i := 0) rfl d_X12_init_36 0 rfl ?_
  refine aw_bipush (v := 12) d_X12_init_37 ib_12 ?_
  refine aw_newa (t := 0) (atype := .int) 204 12 (by decide) rfl tw_51 (hn8 204 (by decide) (by decide)) (by decide) xs0 (by decide) (by decide) (by decide) (Nat.le_of_ble_eq_true rfl) (Nat.le_of_ble_eq_true rfl) d_X12_init_39 ?_
  refine aw_putrF (k0 := 8) kc_12 (ss_n hs7 (by decide)) (Nat.le_of_ble_eq_true rfl) tw_1750 d_X12_init_41 rfl rfl rfl rfl ?_
  have hs9 := ss_step (k := 204) (t := 0) (n := 12) (c' := 1) (s := 8) (r := some 204) hs7 (by decide)
  have hn10 := nn_step (k := 204) (t := 0) (n := 12) (c := 1) (s := 8) (r := some 204) hn8
  refine aw_aload_n (i := 0) rfl d_X12_init_44 0 rfl ?_
  refine aw_bipush (v := 12) d_X12_init_45 ib_12 ?_
  refine aw_newa (t := 0) (atype := .int) 205 12 (by decide) rfl tw_51 (hn10 205 (by decide) (by decide)) (by decide) xs0 (by decide) (by decide) (by decide) (Nat.le_of_ble_eq_true rfl) (Nat.le_of_ble_eq_true rfl) d_X12_init_47 ?_
  refine aw_putrF (k0 := 9) kc_12 (ss_n hs9 (by decide)) (Nat.le_of_ble_eq_true rfl) tw_1751 d_X12_init_49 rfl rfl rfl rfl ?_
  have hs11 := ss_step (k := 205) (t := 0) (n := 12) (c' := 1) (s := 9) (r := some 205) hs9 (by decide)
  have hn12 := nn_step (k := 205) (t := 0) (n := 12) (c := 1) (s := 9) (r := some 205) hn10
  refine aw_aload_n (i := 0) rfl d_X12_init_52 0 rfl ?_
  refine aw_bipush (v := 12) d_X12_init_53 ib_12 ?_
  refine aw_newa (t := 0) (atype := .int) 206 12 (by decide) rfl tw_51 (hn12 206 (by decide) (by decide)) (by decide) xs0 (by decide) (by decide) (by decide) (Nat.le_of_ble_eq_true rfl) (Nat.le_of_ble_eq_true rfl) d_X12_init_55 ?_
  refine aw_putrF (k0 := 10) kc_12 (ss_n hs11 (by decide)) (Nat.le_of_ble_eq_true rfl) tw_1752 d_X12_init_57 rfl rfl rfl rfl ?_
  have hs13 := ss_step (k := 206) (t := 0) (n := 12) (c' := 1) (s := 10) (r := some 206) hs11 (by decide)
  have hn14 := nn_step (k := 206) (t := 0) (n := 12) (c := 1) (s := 10) (r := some 206) hn12
  refine aw_aload_n (i := 0) rfl d_X12_init_60 0 rfl ?_
  refine aw_bipush (v := 12) d_X12_init_61 ib_12 ?_
  refine aw_newa (t := 0) (atype := .int) 207 12 (by decide) rfl tw_51 (hn14 207 (by decide) (by decide)) (by decide) xs0 (by decide) (by decide) (by decide) (Nat.le_of_ble_eq_true rfl) (Nat.le_of_ble_eq_true rfl) d_X12_init_63 ?_
  refine aw_putrF (k0 := 11) kc_12 (ss_n hs13 (by decide)) (Nat.le_of_ble_eq_true rfl) tw_1753 d_X12_init_65 rfl rfl rfl rfl ?_
  have hs15 := ss_step (k := 207) (t := 0) (n := 12) (c' := 1) (s := 11) (r := some 207) hs13 (by decide)
  have hn16 := nn_step (k := 207) (t := 0) (n := 12) (c := 1) (s := 11) (r := some 207) hn14
  refine aw_aload_n (i := 0) rfl d_X12_init_68 0 rfl ?_
  refine aw_bipush (v := 12) d_X12_init_69 ib_12 ?_
  refine aw_newa (t := 0) (atype := .int) 208 12 (by decide) rfl tw_51 (hn16 208 (by decide) (by decide)) (by decide) xs0 (by decide) (by decide) (by decide) (Nat.le_of_ble_eq_true rfl) (Nat.le_of_ble_eq_true rfl) d_X12_init_71 ?_
  refine aw_putrF (k0 := 12) kc_12 (ss_n hs15 (by decide)) (Nat.le_of_ble_eq_true rfl) tw_1754 d_X12_init_73 rfl rfl rfl rfl ?_
  have hs17 := ss_step (k := 208) (t := 0) (n := 12) (c' := 1) (s := 12) (r := some 208) hs15 (by decide)
  have hn18 := nn_step (k := 208) (t := 0) (n := 12) (c := 1) (s := 12) (r := some 208) hn16
  refine aw_aload_n (i := 0) rfl d_X12_init_76 0 rfl ?_
  refine aw_bipush (v := 12) d_X12_init_77 ib_12 ?_
  refine aw_newa (t := 0) (atype := .int) 209 12 (by decide) rfl tw_51 (hn18 209 (by decide) (by decide)) (by decide) xs0 (by decide) (by decide) (by decide) (Nat.le_of_ble_eq_true rfl) (Nat.le_of_ble_eq_true rfl) d_X12_init_79 ?_
  refine aw_putrF (k0 := 13) kc_12 (ss_n hs17 (by decide)) (Nat.le_of_ble_eq_true rfl) tw_1755 d_X12_init_81 rfl rfl rfl rfl ?_
  have hs19 := ss_step (k := 209) (t := 0) (n := 12) (c' := 1) (s := 13) (r := some 209) hs17 (by decide)
  have hn20 := nn_step (k := 209) (t := 0) (n := 12) (c := 1) (s := 13) (r := some 209) hn18
  refine aw_aload_n (i := 0) rfl d_X12_init_84 0 rfl ?_
  refine aw_bipush (v := 12) d_X12_init_85 ib_12 ?_
  refine aw_newa (t := 0) (atype := .int) 210 12 (by decide) rfl tw_51 (hn20 210 (by decide) (by decide)) (by decide) xs0 (by decide) (by decide) (by decide) (Nat.le_of_ble_eq_true rfl) (Nat.le_of_ble_eq_true rfl) d_X12_init_87 ?_
  refine aw_putrF (k0 := 14) kc_12 (ss_n hs19 (by decide)) (Nat.le_of_ble_eq_true rfl) tw_1756 d_X12_init_89 rfl rfl rfl rfl ?_
  have hs21 := ss_step (k := 210) (t := 0) (n := 12) (c' := 1) (s := 14) (r := some 210) hs19 (by decide)
  have hn22 := nn_step (k := 210) (t := 0) (n := 12) (c := 1) (s := 14) (r := some 210) hn20
  refine aw_aload_n (i := 0) rfl d_X12_init_92 0 rfl ?_
  refine aw_bipush (v := 12) d_X12_init_93 ib_12 ?_
  refine aw_newa (t := 0) (atype := .int) 211 12 (by decide) rfl tw_51 (hn22 211 (by decide) (by decide)) (by decide) xs0 (by decide) (by decide) (by decide) (Nat.le_of_ble_eq_true rfl) (Nat.le_of_ble_eq_true rfl) d_X12_init_95 ?_
  refine aw_putrF (k0 := 15) kc_12 (ss_n hs21 (by decide)) (Nat.le_of_ble_eq_true rfl) tw_1757 d_X12_init_97 rfl rfl rfl rfl ?_
  have hs23 := ss_step (k := 211) (t := 0) (n := 12) (c' := 1) (s := 15) (r := some 211) hs21 (by decide)
  have hn24 := nn_step (k := 211) (t := 0) (n := 12) (c := 1) (s := 15) (r := some 211) hn22
  refine aw_aload_n (i := 0) rfl d_X12_init_100 0 rfl ?_
  refine aw_bipush (v := 12) d_X12_init_101 ib_12 ?_
  refine aw_newa (t := 0) (atype := .int) 212 12 (by decide) rfl tw_51 (hn24 212 (by decide) (by decide)) (by decide) xs0 (by decide) (by decide) (by decide) (Nat.le_of_ble_eq_true rfl) (Nat.le_of_ble_eq_true rfl) d_X12_init_103 ?_
  refine aw_putrF (k0 := 16) kc_12 (ss_n hs23 (by decide)) (Nat.le_of_ble_eq_true rfl) tw_1758 d_X12_init_105 rfl rfl rfl rfl ?_
  have hs25 := ss_step (k := 212) (t := 0) (n := 12) (c' := 1) (s := 16) (r := some 212) hs23 (by decide)
  have hn26 := nn_step (k := 212) (t := 0) (n := 12) (c := 1) (s := 16) (r := some 212) hn24
  refine aw_aload_n (i := 0) rfl d_X12_init_108 0 rfl ?_
  refine aw_bipush (v := 12) d_X12_init_109 ib_12 ?_
  refine aw_newa (t := 0) (atype := .int) 213 12 (by decide) rfl tw_51 (hn26 213 (by decide) (by decide)) (by decide) xs0 (by decide) (by decide) (by decide) (Nat.le_of_ble_eq_true rfl) (Nat.le_of_ble_eq_true rfl) d_X12_init_111 ?_
  refine aw_putrF (k0 := 17) kc_12 (ss_n hs25 (by decide)) (Nat.le_of_ble_eq_true rfl) tw_1759 d_X12_init_113 rfl rfl rfl rfl ?_
  have hs27 := ss_step (k := 213) (t := 0) (n := 12) (c' := 1) (s := 17) (r := some 213) hs25 (by decide)
  have hn28 := nn_step (k := 213) (t := 0) (n := 12) (c := 1) (s := 17) (r := some 213) hn26
  refine aw_aload_n (i := 0) rfl d_X12_init_116 0 rfl ?_
  refine aw_bipush (v := 12) d_X12_init_117 ib_12 ?_
  refine aw_newa (t := 0) (atype := .int) 214 12 (by decide) rfl tw_51 (hn28 214 (by decide) (by decide)) (by decide) xs0 (by decide) (by decide) (by decide) (Nat.le_of_ble_eq_true rfl) (Nat.le_of_ble_eq_true rfl) d_X12_init_119 ?_
  refine aw_putrF (k0 := 18) kc_12 (ss_n hs27 (by decide)) (Nat.le_of_ble_eq_true rfl) tw_1760 d_X12_init_121 rfl rfl rfl rfl ?_
  have hs29 := ss_step (k := 214) (t := 0) (n := 12) (c' := 1) (s := 18) (r := some 214) hs27 (by decide)
  have hn30 := nn_step (k := 214) (t := 0) (n := 12) (c := 1) (s := 18) (r := some 214) hn28
  refine aw_aload_n (i := 0) rfl d_X12_init_124 0 rfl ?_
  refine aw_bipush (v := 12) d_X12_init_125 ib_12 ?_
  refine aw_newa (t := 0) (atype := .int) 215 12 (by decide) rfl tw_51 (hn30 215 (by decide) (by decide)) (by decide) xs0 (by decide) (by decide) (by decide) (Nat.le_of_ble_eq_true rfl) (Nat.le_of_ble_eq_true rfl) d_X12_init_127 ?_
  refine aw_putrF (k0 := 19) kc_12 (ss_n hs29 (by decide)) (Nat.le_of_ble_eq_true rfl) tw_1761 d_X12_init_129 rfl rfl rfl rfl ?_
  have hs31 := ss_step (k := 215) (t := 0) (n := 12) (c' := 1) (s := 19) (r := some 215) hs29 (by decide)
  have hn32 := nn_step (k := 215) (t := 0) (n := 12) (c := 1) (s := 19) (r := some 215) hn30
  refine aw_aload_n (i := 0) rfl d_X12_init_132 0 rfl ?_
  refine aw_bipush (v := 12) d_X12_init_133 ib_12 ?_
  refine aw_newa (t := 0) (atype := .int) 216 12 (by decide) rfl tw_51 (hn32 216 (by decide) (by decide)) (by decide) xs0 (by decide) (by decide) (by decide) (Nat.le_of_ble_eq_true rfl) (Nat.le_of_ble_eq_true rfl) d_X12_init_135 ?_
  refine aw_putrF (k0 := 20) kc_12 (ss_n hs31 (by decide)) (Nat.le_of_ble_eq_true rfl) tw_1762 d_X12_init_137 rfl rfl rfl rfl ?_
  have hs33 := ss_step (k := 216) (t := 0) (n := 12) (c' := 1) (s := 20) (r := some 216) hs31 (by decide)
  have hn34 := nn_step (k := 216) (t := 0) (n := 12) (c := 1) (s := 20) (r := some 216) hn32
  refine aw_aload_n (i := 0) rfl d_X12_init_140 0 rfl ?_
  refine aw_bipush (v := 12) d_X12_init_141 ib_12 ?_
  refine aw_newa (t := 0) (atype := .int) 217 12 (by decide) rfl tw_51 (hn34 217 (by decide) (by decide)) (by decide) xs0 (by decide) (by decide) (by decide) (Nat.le_of_ble_eq_true rfl) (Nat.le_of_ble_eq_true rfl) d_X12_init_143 ?_
  refine aw_putrF (k0 := 21) kc_12 (ss_n hs33 (by decide)) (Nat.le_of_ble_eq_true rfl) tw_1763 d_X12_init_145 rfl rfl rfl rfl ?_
  have hs35 := ss_step (k := 217) (t := 0) (n := 12) (c' := 1) (s := 21) (r := some 217) hs33 (by decide)
  have hn36 := nn_step (k := 217) (t := 0) (n := 12) (c := 1) (s := 21) (r := some 217) hn34
  refine aw_aload_n (i := 0) rfl d_X12_init_148 0 rfl ?_
  refine aw_bipush (v := 12) d_X12_init_149 ib_12 ?_
  refine aw_newa (t := 0) (atype := .int) 218 12 (by decide) rfl tw_51 (hn36 218 (by decide) (by decide)) (by decide) xs0 (by decide) (by decide) (by decide) (Nat.le_of_ble_eq_true rfl) (Nat.le_of_ble_eq_true rfl) d_X12_init_151 ?_
  refine aw_putrF (k0 := 22) kc_12 (ss_n hs35 (by decide)) (Nat.le_of_ble_eq_true rfl) tw_1764 d_X12_init_153 rfl rfl rfl rfl ?_
  have hs37 := ss_step (k := 218) (t := 0) (n := 12) (c' := 1) (s := 22) (r := some 218) hs35 (by decide)
  have hn38 := nn_step (k := 218) (t := 0) (n := 12) (c := 1) (s := 22) (r := some 218) hn36
  refine aw_aload_n (i := 0) rfl d_X12_init_156 0 rfl ?_
  refine aw_bipush (v := 12) d_X12_init_157 ib_12 ?_
  refine aw_newa (t := 0) (atype := .int) 219 12 (by decide) rfl tw_51 (hn38 219 (by decide) (by decide)) (by decide) xs0 (by decide) (by decide) (by decide) (Nat.le_of_ble_eq_true rfl) (Nat.le_of_ble_eq_true rfl) d_X12_init_159 ?_
  refine aw_putrF (k0 := 23) kc_12 (ss_n hs37 (by decide)) (Nat.le_of_ble_eq_true rfl) tw_1765 d_X12_init_161 rfl rfl rfl rfl ?_
  have hs39 := ss_step (k := 219) (t := 0) (n := 12) (c' := 1) (s := 23) (r := some 219) hs37 (by decide)
  have hn40 := nn_step (k := 219) (t := 0) (n := 12) (c := 1) (s := 23) (r := some 219) hn38
  refine aw_aload_n (i := 0) rfl d_X12_init_164 0 rfl ?_
  refine aw_ldc (v := 240012) d_X12_init_165 tw_1741 ?_
  refine aw_newa (t := 2) (atype := .byte) 220 240012 (by decide) rfl tw_96 (hn40 220 (by decide) (by decide)) (by decide) xs0 (by decide) (by decide) (by decide) (Nat.le_of_ble_eq_true rfl) (Nat.le_of_ble_eq_true rfl) d_X12_init_167 ?_
  refine aw_putrF (k0 := 24) kc_12 (ss_n hs39 (by decide)) (Nat.le_of_ble_eq_true rfl) tw_1766 d_X12_init_169 rfl rfl rfl rfl ?_
  have hs41 := ss_step (k := 220) (t := 2) (n := 240012) (c' := 1) (s := 24) (r := some 220) hs39 (by decide)
  have hn42 := nn_step (k := 220) (t := 2) (n := 240012) (c := 1) (s := 24) (r := some 220) hn40
  refine aw_aload_n (i := 0) rfl d_X12_init_172 0 rfl ?_
  refine aw_bipush (v := 40) d_X12_init_173 ib_40 ?_
  refine aw_newa (t := 0) (atype := .int) 221 40 (by decide) rfl tw_51 (hn42 221 (by decide) (by decide)) (by decide) xs0 (by decide) (by decide) (by decide) (Nat.le_of_ble_eq_true rfl) (Nat.le_of_ble_eq_true rfl) d_X12_init_175 ?_
  refine aw_putrF (k0 := 25) kc_12 (ss_n hs41 (by decide)) (Nat.le_of_ble_eq_true rfl) tw_1767 d_X12_init_177 rfl rfl rfl rfl ?_
  have hs43 := ss_step (k := 221) (t := 0) (n := 40) (c' := 1) (s := 25) (r := some 221) hs41 (by decide)
  have hn44 := nn_step (k := 221) (t := 0) (n := 40) (c := 1) (s := 25) (r := some 221) hn42
  refine aw_aload_n (i := 0) rfl d_X12_init_180 0 rfl ?_
  refine aw_bipush (v := 40) d_X12_init_181 ib_40 ?_
  refine aw_newa (t := 0) (atype := .int) 222 40 (by decide) rfl tw_51 (hn44 222 (by decide) (by decide)) (by decide) xs0 (by decide) (by decide) (by decide) (Nat.le_of_ble_eq_true rfl) (Nat.le_of_ble_eq_true rfl) d_X12_init_183 ?_
  refine aw_putrF (k0 := 26) kc_12 (ss_n hs43 (by decide)) (Nat.le_of_ble_eq_true rfl) tw_1768 d_X12_init_185 rfl rfl rfl rfl ?_
  have hs45 := ss_step (k := 222) (t := 0) (n := 40) (c' := 1) (s := 26) (r := some 222) hs43 (by decide)
  have hn46 := nn_step (k := 222) (t := 0) (n := 40) (c := 1) (s := 26) (r := some 222) hn44
  refine aw_aload_n (i := 0) rfl d_X12_init_188 0 rfl ?_
  refine aw_bipush (v := 40) d_X12_init_189 ib_40 ?_
  refine aw_newa (t := 0) (atype := .int) 223 40 (by decide) rfl tw_51 (hn46 223 (by decide) (by decide)) (by decide) xs0 (by decide) (by decide) (by decide) (Nat.le_of_ble_eq_true rfl) (Nat.le_of_ble_eq_true rfl) d_X12_init_191 ?_
  refine aw_putrF (k0 := 27) kc_12 (ss_n hs45 (by decide)) (Nat.le_of_ble_eq_true rfl) tw_1769 d_X12_init_193 rfl rfl rfl rfl ?_
  have hs47 := ss_step (k := 223) (t := 0) (n := 40) (c' := 1) (s := 27) (r := some 223) hs45 (by decide)
  have hn48 := nn_step (k := 223) (t := 0) (n := 40) (c := 1) (s := 27) (r := some 223) hn46
  refine aw_aload_n (i := 0) rfl d_X12_init_196 0 rfl ?_
  refine aw_bipush (v := 40) d_X12_init_197 ib_40 ?_
  refine aw_newa (t := 0) (atype := .int) 224 40 (by decide) rfl tw_51 (hn48 224 (by decide) (by decide)) (by decide) xs0 (by decide) (by decide) (by decide) (Nat.le_of_ble_eq_true rfl) (Nat.le_of_ble_eq_true rfl) d_X12_init_199 ?_
  refine aw_putrF (k0 := 28) kc_12 (ss_n hs47 (by decide)) (Nat.le_of_ble_eq_true rfl) tw_1770 d_X12_init_201 rfl rfl rfl rfl ?_
  have hs49 := ss_step (k := 224) (t := 0) (n := 40) (c' := 1) (s := 28) (r := some 224) hs47 (by decide)
  have hn50 := nn_step (k := 224) (t := 0) (n := 40) (c := 1) (s := 28) (r := some 224) hn48
  refine aw_aload_n (i := 0) rfl d_X12_init_204 0 rfl ?_
  refine aw_sipush (v := 160) d_X12_init_205 is_160 ?_
  refine aw_newa (t := 0) (atype := .int) 225 160 (by decide) rfl tw_51 (hn50 225 (by decide) (by decide)) (by decide) xs0 (by decide) (by decide) (by decide) (Nat.le_of_ble_eq_true rfl) (Nat.le_of_ble_eq_true rfl) d_X12_init_208 ?_
  refine aw_putrF (k0 := 30) kc_12 (ss_n hs49 (by decide)) (Nat.le_of_ble_eq_true rfl) tw_1772 d_X12_init_210 rfl rfl rfl rfl ?_
  have hs51 := ss_step (k := 225) (t := 0) (n := 160) (c' := 1) (s := 30) (r := some 225) hs49 (by decide)
  have hn52 := nn_step (k := 225) (t := 0) (n := 160) (c := 1) (s := 30) (r := some 225) hn50
  refine aw_aload_n (i := 0) rfl d_X12_init_213 0 rfl ?_
  refine aw_sipush (v := 560) d_X12_init_214 is_560 ?_
  refine aw_newa (t := 0) (atype := .int) 226 560 (by decide) rfl tw_51 (hn52 226 (by decide) (by decide)) (by decide) xs0 (by decide) (by decide) (by decide) (Nat.le_of_ble_eq_true rfl) (Nat.le_of_ble_eq_true rfl) d_X12_init_217 ?_
  refine aw_putrF (k0 := 31) kc_12 (ss_n hs51 (by decide)) (Nat.le_of_ble_eq_true rfl) tw_1773 d_X12_init_219 rfl rfl rfl rfl ?_
  have hs53 := ss_step (k := 226) (t := 0) (n := 560) (c' := 1) (s := 31) (r := some 226) hs51 (by decide)
  have hn54 := nn_step (k := 226) (t := 0) (n := 560) (c := 1) (s := 31) (r := some 226) hn52
  refine aw_aload_n (i := 0) rfl d_X12_init_222 0 rfl ?_
  refine aw_bipush (v := 12) d_X12_init_223 ib_12 ?_
  refine aw_newa (t := 0) (atype := .int) 227 12 (by decide) rfl tw_51 (hn54 227 (by decide) (by decide)) (by decide) xs0 (by decide) (by decide) (by decide) (Nat.le_of_ble_eq_true rfl) (Nat.le_of_ble_eq_true rfl) d_X12_init_225 ?_
  refine aw_putrF (k0 := 38) kc_12 (ss_n hs53 (by decide)) (Nat.le_of_ble_eq_true rfl) tw_1780 d_X12_init_227 rfl rfl rfl rfl ?_
  have hs55 := ss_step (k := 227) (t := 0) (n := 12) (c' := 1) (s := 38) (r := some 227) hs53 (by decide)
  have hn56 := nn_step (k := 227) (t := 0) (n := 12) (c := 1) (s := 38) (r := some 227) hn54
  refine aw_aload_n (i := 0) rfl d_X12_init_230 0 rfl ?_
  refine aw_sipush (v := 1800) d_X12_init_231 is_1800 ?_
  refine aw_newa (t := 0) (atype := .int) 228 1800 (by decide) rfl tw_51 (hn56 228 (by decide) (by decide)) (by decide) xs0 (by decide) (by decide) (by decide) (Nat.le_of_ble_eq_true rfl) (Nat.le_of_ble_eq_true rfl) d_X12_init_234 ?_
  refine aw_putrF (k0 := 39) kc_12 (ss_n hs55 (by decide)) (Nat.le_of_ble_eq_true rfl) tw_1781 d_X12_init_236 rfl rfl rfl rfl ?_
  have hs57 := ss_step (k := 228) (t := 0) (n := 1800) (c' := 1) (s := 39) (r := some 228) hs55 (by decide)
  have hn58 := nn_step (k := 228) (t := 0) (n := 1800) (c := 1) (s := 39) (r := some 228) hn56
  refine aw_aload_n (i := 0) rfl d_X12_init_239 0 rfl ?_
  refine aw_sipush (v := 1800) d_X12_init_240 is_1800 ?_
  refine aw_newa (t := 0) (atype := .int) 229 1800 (by decide) rfl tw_51 (hn58 229 (by decide) (by decide)) (by decide) xs0 (by decide) (by decide) (by decide) (Nat.le_of_ble_eq_true rfl) (Nat.le_of_ble_eq_true rfl) d_X12_init_243 ?_
  refine aw_putrF (k0 := 40) kc_12 (ss_n hs57 (by decide)) (Nat.le_of_ble_eq_true rfl) tw_1782 d_X12_init_245 rfl rfl rfl rfl ?_
  have hs59 := ss_step (k := 229) (t := 0) (n := 1800) (c' := 1) (s := 40) (r := some 229) hs57 (by decide)
  have hn60 := nn_step (k := 229) (t := 0) (n := 1800) (c := 1) (s := 40) (r := some 229) hn58
  refine aw_aload_n (i := 0) rfl d_X12_init_248 0 rfl ?_
  refine aw_sipush (v := 1800) d_X12_init_249 is_1800 ?_
  refine aw_newa (t := 0) (atype := .int) 230 1800 (by decide) rfl tw_51 (hn60 230 (by decide) (by decide)) (by decide) xs0 (by decide) (by decide) (by decide) (Nat.le_of_ble_eq_true rfl) (Nat.le_of_ble_eq_true rfl) d_X12_init_252 ?_
  refine aw_putrF (k0 := 41) kc_12 (ss_n hs59 (by decide)) (Nat.le_of_ble_eq_true rfl) tw_1783 d_X12_init_254 rfl rfl rfl rfl ?_
  have hs61 := ss_step (k := 230) (t := 0) (n := 1800) (c' := 1) (s := 41) (r := some 230) hs59 (by decide)
  have hn62 := nn_step (k := 230) (t := 0) (n := 1800) (c := 1) (s := 41) (r := some 230) hn60
  refine aw_aload_n (i := 0) rfl d_X12_init_257 0 rfl ?_
  refine aw_sipush (v := 22400) d_X12_init_258 is_22400 ?_
  refine aw_newa (t := 0) (atype := .int) 231 22400 (by decide) rfl tw_51 (hn62 231 (by decide) (by decide)) (by decide) xs0 (by decide) (by decide) (by decide) (Nat.le_of_ble_eq_true rfl) (Nat.le_of_ble_eq_true rfl) d_X12_init_261 ?_
  refine aw_putrF (k0 := 45) kc_12 (ss_n hs61 (by decide)) (Nat.le_of_ble_eq_true rfl) tw_1787 d_X12_init_263 rfl rfl rfl rfl ?_
  have hs63 := ss_step (k := 231) (t := 0) (n := 22400) (c' := 1) (s := 45) (r := some 231) hs61 (by decide)
  have hn64 := nn_step (k := 231) (t := 0) (n := 22400) (c := 1) (s := 45) (r := some 231) hn62
  refine aw_aload_n (i := 0) rfl d_X12_init_266 0 rfl ?_
  refine aw_bipush (v := 40) d_X12_init_267 ib_40 ?_
  refine aw_newa (t := 0) (atype := .int) 232 40 (by decide) rfl tw_51 (hn64 232 (by decide) (by decide)) (by decide) xs0 (by decide) (by decide) (by decide) (Nat.le_of_ble_eq_true rfl) (Nat.le_of_ble_eq_true rfl) d_X12_init_269 ?_
  refine aw_putrF (k0 := 46) kc_12 (ss_n hs63 (by decide)) (Nat.le_of_ble_eq_true rfl) tw_1788 d_X12_init_271 rfl rfl rfl rfl ?_
  have hs65 := ss_step (k := 232) (t := 0) (n := 40) (c' := 1) (s := 46) (r := some 232) hs63 (by decide)
  have hn66 := nn_step (k := 232) (t := 0) (n := 40) (c := 1) (s := 46) (r := some 232) hn64
  refine aw_aload_n (i := 0) rfl d_X12_init_274 0 rfl ?_
  refine aw_bipush (v := 40) d_X12_init_275 ib_40 ?_
  refine aw_newa (t := 0) (atype := .int) 233 40 (by decide) rfl tw_51 (hn66 233 (by decide) (by decide)) (by decide) xs0 (by decide) (by decide) (by decide) (Nat.le_of_ble_eq_true rfl) (Nat.le_of_ble_eq_true rfl) d_X12_init_277 ?_
  refine aw_putrF (k0 := 47) kc_12 (ss_n hs65 (by decide)) (Nat.le_of_ble_eq_true rfl) tw_1789 d_X12_init_279 rfl rfl rfl rfl ?_
  have hs67 := ss_step (k := 233) (t := 0) (n := 40) (c' := 1) (s := 47) (r := some 233) hs65 (by decide)
  have hn68 := nn_step (k := 233) (t := 0) (n := 40) (c := 1) (s := 47) (r := some 233) hn66
  refine aw_aload_n (i := 0) rfl d_X12_init_282 0 rfl ?_
  refine aw_bipush (v := 40) d_X12_init_283 ib_40 ?_
  refine aw_newa (t := 0) (atype := .int) 234 40 (by decide) rfl tw_51 (hn68 234 (by decide) (by decide)) (by decide) xs0 (by decide) (by decide) (by decide) (Nat.le_of_ble_eq_true rfl) (Nat.le_of_ble_eq_true rfl) d_X12_init_285 ?_
  refine aw_putrF (k0 := 48) kc_12 (ss_n hs67 (by decide)) (Nat.le_of_ble_eq_true rfl) tw_1790 d_X12_init_287 rfl rfl rfl rfl ?_
  have hs69 := ss_step (k := 234) (t := 0) (n := 40) (c' := 1) (s := 48) (r := some 234) hs67 (by decide)
  have hn70 := nn_step (k := 234) (t := 0) (n := 40) (c := 1) (s := 48) (r := some 234) hn68
  refine aw_aload_n (i := 0) rfl d_X12_init_290 0 rfl ?_
  refine aw_iconst (v := 2) d_X12_init_291 ic_2 ?_
  refine aw_newa (t := 0) (atype := .int) 235 2 (by decide) rfl tw_51 (hn70 235 (by decide) (by decide)) (by decide) xs0 (by decide) (by decide) (by decide) (Nat.le_of_ble_eq_true rfl) (Nat.le_of_ble_eq_true rfl) d_X12_init_292 ?_
  refine aw_putrF (k0 := 49) kc_12 (ss_n hs69 (by decide)) (Nat.le_of_ble_eq_true rfl) tw_1791 d_X12_init_294 rfl rfl rfl rfl ?_
  have hs71 := ss_step (k := 235) (t := 0) (n := 2) (c' := 1) (s := 49) (r := some 235) hs69 (by decide)
  have hn72 := nn_step (k := 235) (t := 0) (n := 2) (c := 1) (s := 49) (r := some 235) hn70
  refine aw_aload_n (i := 0) rfl d_X12_init_297 0 rfl ?_
  refine aw_sipush (v := 128) d_X12_init_298 is_128 ?_
  refine aw_newa (t := 0) (atype := .int) 236 128 (by decide) rfl tw_51 (hn72 236 (by decide) (by decide)) (by decide) xs0 (by decide) (by decide) (by decide) (Nat.le_of_ble_eq_true rfl) (Nat.le_of_ble_eq_true rfl) d_X12_init_301 ?_
  refine aw_putrF (k0 := 50) kc_12 (ss_n hs71 (by decide)) (Nat.le_of_ble_eq_true rfl) tw_1792 d_X12_init_303 rfl rfl rfl rfl ?_
  have hs73 := ss_step (k := 236) (t := 0) (n := 128) (c' := 1) (s := 50) (r := some 236) hs71 (by decide)
  have hn74 := nn_step (k := 236) (t := 0) (n := 128) (c := 1) (s := 50) (r := some 236) hn72
  refine aw_aload_n (i := 0) rfl d_X12_init_306 0 rfl ?_
  refine aw_sipush (v := 200) d_X12_init_307 is_200 ?_
  refine aw_newa (t := 0) (atype := .int) 237 200 (by decide) rfl tw_51 (hn74 237 (by decide) (by decide)) (by decide) xs0 (by decide) (by decide) (by decide) (Nat.le_of_ble_eq_true rfl) (Nat.le_of_ble_eq_true rfl) d_X12_init_310 ?_
  refine aw_putrF (k0 := 51) kc_12 (ss_n hs73 (by decide)) (Nat.le_of_ble_eq_true rfl) tw_1793 d_X12_init_312 rfl rfl rfl rfl ?_
  have hs75 := ss_step (k := 237) (t := 0) (n := 200) (c' := 1) (s := 51) (r := some 237) hs73 (by decide)
  have hn76 := nn_step (k := 237) (t := 0) (n := 200) (c := 1) (s := 51) (r := some 237) hn74
  refine aw_aload_n (i := 0) rfl d_X12_init_315 0 rfl ?_
  refine aw_sipush (v := 400) d_X12_init_316 is_400 ?_
  refine aw_newa (t := 0) (atype := .int) 238 400 (by decide) rfl tw_51 (hn76 238 (by decide) (by decide)) (by decide) xs0 (by decide) (by decide) (by decide) (Nat.le_of_ble_eq_true rfl) (Nat.le_of_ble_eq_true rfl) d_X12_init_319 ?_
  refine aw_putrF (k0 := 53) kc_12 (ss_n hs75 (by decide)) (Nat.le_of_ble_eq_true rfl) tw_1795 d_X12_init_321 rfl rfl rfl rfl ?_
  have hs77 := ss_step (k := 238) (t := 0) (n := 400) (c' := 1) (s := 53) (r := some 238) hs75 (by decide)
  have hn78 := nn_step (k := 238) (t := 0) (n := 400) (c := 1) (s := 53) (r := some 238) hn76
  refine aw_aload_n (i := 0) rfl d_X12_init_324 0 rfl ?_
  refine aw_sipush (v := 400) d_X12_init_325 is_400 ?_
  refine aw_newa (t := 0) (atype := .int) 239 400 (by decide) rfl tw_51 (hn78 239 (by decide) (by decide)) (by decide) xs0 (by decide) (by decide) (by decide) (Nat.le_of_ble_eq_true rfl) (Nat.le_of_ble_eq_true rfl) d_X12_init_328 ?_
  refine aw_putrF (k0 := 54) kc_12 (ss_n hs77 (by decide)) (Nat.le_of_ble_eq_true rfl) tw_1796 d_X12_init_330 rfl rfl rfl rfl ?_
  have hs79 := ss_step (k := 239) (t := 0) (n := 400) (c' := 1) (s := 54) (r := some 239) hs77 (by decide)
  have hn80 := nn_step (k := 239) (t := 0) (n := 400) (c := 1) (s := 54) (r := some 239) hn78
  refine aw_aload_n (i := 0) rfl d_X12_init_333 0 rfl ?_
  refine aw_sipush (v := 400) d_X12_init_334 is_400 ?_
  refine aw_newa (t := 0) (atype := .int) 240 400 (by decide) rfl tw_51 (hn80 240 (by decide) (by decide)) (by decide) xs0 (by decide) (by decide) (by decide) (Nat.le_of_ble_eq_true rfl) (Nat.le_of_ble_eq_true rfl) d_X12_init_337 ?_
  refine aw_putrF (k0 := 55) kc_12 (ss_n hs79 (by decide)) (Nat.le_of_ble_eq_true rfl) tw_1797 d_X12_init_339 rfl rfl rfl rfl ?_
  have hs81 := ss_step (k := 240) (t := 0) (n := 400) (c' := 1) (s := 55) (r := some 240) hs79 (by decide)
  have hn82 := nn_step (k := 240) (t := 0) (n := 400) (c := 1) (s := 55) (r := some 240) hn80
  refine aw_aload_n (i := 0) rfl d_X12_init_342 0 rfl ?_
  refine aw_sipush (v := 400) d_X12_init_343 is_400 ?_
  refine aw_newa (t := 0) (atype := .int) 241 400 (by decide) rfl tw_51 (hn82 241 (by decide) (by decide)) (by decide) xs0 (by decide) (by decide) (by decide) (Nat.le_of_ble_eq_true rfl) (Nat.le_of_ble_eq_true rfl) d_X12_init_346 ?_
  refine aw_putrF (k0 := 56) kc_12 (ss_n hs81 (by decide)) (Nat.le_of_ble_eq_true rfl) tw_1798 d_X12_init_348 rfl rfl rfl rfl ?_
  have hs83 := ss_step (k := 241) (t := 0) (n := 400) (c' := 1) (s := 56) (r := some 241) hs81 (by decide)
  have hn84 := nn_step (k := 241) (t := 0) (n := 400) (c := 1) (s := 56) (r := some 241) hn82
  refine aw_aload_n (i := 0) rfl d_X12_init_351 0 rfl ?_
  refine aw_sipush (v := 400) d_X12_init_352 is_400 ?_
  refine aw_newa (t := 0) (atype := .int) 242 400 (by decide) rfl tw_51 (hn84 242 (by decide) (by decide)) (by decide) xs0 (by decide) (by decide) (by decide) (Nat.le_of_ble_eq_true rfl) (Nat.le_of_ble_eq_true rfl) d_X12_init_355 ?_
  refine aw_putrF (k0 := 57) kc_12 (ss_n hs83 (by decide)) (Nat.le_of_ble_eq_true rfl) tw_1799 d_X12_init_357 rfl rfl rfl rfl ?_
  have hs85 := ss_step (k := 242) (t := 0) (n := 400) (c' := 1) (s := 57) (r := some 242) hs83 (by decide)
  have hn86 := nn_step (k := 242) (t := 0) (n := 400) (c := 1) (s := 57) (r := some 242) hn84
  refine aw_aload_n (i := 0) rfl d_X12_init_360 0 rfl ?_
  refine aw_sipush (v := 400) d_X12_init_361 is_400 ?_
  refine aw_newa (t := 0) (atype := .int) 243 400 (by decide) rfl tw_51 (hn86 243 (by decide) (by decide)) (by decide) xs0 (by decide) (by decide) (by decide) (Nat.le_of_ble_eq_true rfl) (Nat.le_of_ble_eq_true rfl) d_X12_init_364 ?_
  refine aw_putrF (k0 := 58) kc_12 (ss_n hs85 (by decide)) (Nat.le_of_ble_eq_true rfl) tw_1800 d_X12_init_366 rfl rfl rfl rfl ?_
  have hs87 := ss_step (k := 243) (t := 0) (n := 400) (c' := 1) (s := 58) (r := some 243) hs85 (by decide)
  have hn88 := nn_step (k := 243) (t := 0) (n := 400) (c := 1) (s := 58) (r := some 243) hn86
  refine aw_aload_n (i := 0) rfl d_X12_init_369 0 rfl ?_
  refine aw_sipush (v := 400) d_X12_init_370 is_400 ?_
  refine aw_newa (t := 0) (atype := .int) 244 400 (by decide) rfl tw_51 (hn88 244 (by decide) (by decide)) (by decide) xs0 (by decide) (by decide) (by decide) (Nat.le_of_ble_eq_true rfl) (Nat.le_of_ble_eq_true rfl) d_X12_init_373 ?_
  refine aw_putrF (k0 := 59) kc_12 (ss_n hs87 (by decide)) (Nat.le_of_ble_eq_true rfl) tw_1801 d_X12_init_375 rfl rfl rfl rfl ?_
  have hs89 := ss_step (k := 244) (t := 0) (n := 400) (c' := 1) (s := 59) (r := some 244) hs87 (by decide)
  have hn90 := nn_step (k := 244) (t := 0) (n := 400) (c := 1) (s := 59) (r := some 244) hn88
  refine aw_aload_n (i := 0) rfl d_X12_init_378 0 rfl ?_
  refine aw_sipush (v := 200) d_X12_init_379 is_200 ?_
  refine aw_newa (t := 0) (atype := .int) 245 200 (by decide) rfl tw_51 (hn90 245 (by decide) (by decide)) (by decide) xs0 (by decide) (by decide) (by decide) (Nat.le_of_ble_eq_true rfl) (Nat.le_of_ble_eq_true rfl) d_X12_init_382 ?_
  refine aw_putrF (k0 := 60) kc_12 (ss_n hs89 (by decide)) (Nat.le_of_ble_eq_true rfl) tw_1802 d_X12_init_384 rfl rfl rfl rfl ?_
  have hs91 := ss_step (k := 245) (t := 0) (n := 200) (c' := 1) (s := 60) (r := some 245) hs89 (by decide)
  have hn92 := nn_step (k := 245) (t := 0) (n := 200) (c := 1) (s := 60) (r := some 245) hn90
  refine aw_aload_n (i := 0) rfl d_X12_init_387 0 rfl ?_
  refine aw_sipush (v := 200) d_X12_init_388 is_200 ?_
  refine aw_newa (t := 0) (atype := .int) 246 200 (by decide) rfl tw_51 (hn92 246 (by decide) (by decide)) (by decide) xs0 (by decide) (by decide) (by decide) (Nat.le_of_ble_eq_true rfl) (Nat.le_of_ble_eq_true rfl) d_X12_init_391 ?_
  refine aw_putrF (k0 := 61) kc_12 (ss_n hs91 (by decide)) (Nat.le_of_ble_eq_true rfl) tw_1803 d_X12_init_393 rfl rfl rfl rfl ?_
  have hs93 := ss_step (k := 246) (t := 0) (n := 200) (c' := 1) (s := 61) (r := some 246) hs91 (by decide)
  have hn94 := nn_step (k := 246) (t := 0) (n := 200) (c := 1) (s := 61) (r := some 246) hn92
  refine aw_aload_n (i := 0) rfl d_X12_init_396 0 rfl ?_
  refine aw_sipush (v := 200) d_X12_init_397 is_200 ?_
  refine aw_newa (t := 0) (atype := .int) 247 200 (by decide) rfl tw_51 (hn94 247 (by decide) (by decide)) (by decide) xs0 (by decide) (by decide) (by decide) (Nat.le_of_ble_eq_true rfl) (Nat.le_of_ble_eq_true rfl) d_X12_init_400 ?_
  refine aw_putrF (k0 := 62) kc_12 (ss_n hs93 (by decide)) (Nat.le_of_ble_eq_true rfl) tw_1804 d_X12_init_402 rfl rfl rfl rfl ?_
  have hs95 := ss_step (k := 247) (t := 0) (n := 200) (c' := 1) (s := 62) (r := some 247) hs93 (by decide)
  have hn96 := nn_step (k := 247) (t := 0) (n := 200) (c := 1) (s := 62) (r := some 247) hn94
  refine aw_aload_n (i := 0) rfl d_X12_init_405 0 rfl ?_
  refine aw_bipush (v := 12) d_X12_init_406 ib_12 ?_
  refine aw_newa (t := 1) (atype := .boolean) 248 12 (by decide) rfl tw_252 (hn96 248 (by decide) (by decide)) (by decide) xs0 (by decide) (by decide) (by decide) (Nat.le_of_ble_eq_true rfl) (Nat.le_of_ble_eq_true rfl) d_X12_init_408 ?_
  refine aw_putrF (k0 := 65) kc_12 (ss_n hs95 (by decide)) (Nat.le_of_ble_eq_true rfl) tw_1807 d_X12_init_410 rfl rfl rfl rfl ?_
  have hs97 := ss_step (k := 248) (t := 1) (n := 12) (c' := 1) (s := 65) (r := some 248) hs95 (by decide)
  have hn98 := nn_step (k := 248) (t := 1) (n := 12) (c := 1) (s := 65) (r := some 248) hn96
  refine aw_aload_n (i := 0) rfl d_X12_init_413 0 rfl ?_
  refine aw_bipush (v := 80) d_X12_init_414 ib_80 ?_
  refine aw_newa (t := 0) (atype := .int) 249 80 (by decide) rfl tw_51 (hn98 249 (by decide) (by decide)) (by decide) xs0 (by decide) (by decide) (by decide) (Nat.le_of_ble_eq_true rfl) (Nat.le_of_ble_eq_true rfl) d_X12_init_416 ?_
  refine aw_putrF (k0 := 66) kc_12 (ss_n hs97 (by decide)) (Nat.le_of_ble_eq_true rfl) tw_1808 d_X12_init_418 rfl rfl rfl rfl ?_
  have hs99 := ss_step (k := 249) (t := 0) (n := 80) (c' := 1) (s := 66) (r := some 249) hs97 (by decide)
  have hn100 := nn_step (k := 249) (t := 0) (n := 80) (c := 1) (s := 66) (r := some 249) hn98
  refine aw_aload_n (i := 0) rfl d_X12_init_421 0 rfl ?_
  refine aw_bipush (v := 80) d_X12_init_422 ib_80 ?_
  refine aw_newa (t := 0) (atype := .int) 250 80 (by decide) rfl tw_51 (hn100 250 (by decide) (by decide)) (by decide) xs0 (by decide) (by decide) (by decide) (Nat.le_of_ble_eq_true rfl) (Nat.le_of_ble_eq_true rfl) d_X12_init_424 ?_
  refine aw_putrF (k0 := 67) kc_12 (ss_n hs99 (by decide)) (Nat.le_of_ble_eq_true rfl) tw_1809 d_X12_init_426 rfl rfl rfl rfl ?_
  have hs101 := ss_step (k := 250) (t := 0) (n := 80) (c' := 1) (s := 67) (r := some 250) hs99 (by decide)
  have hn102 := nn_step (k := 250) (t := 0) (n := 80) (c := 1) (s := 67) (r := some 250) hn100
  refine aw_aload_n (i := 0) rfl d_X12_init_429 0 rfl ?_
  refine aw_bipush (v := 80) d_X12_init_430 ib_80 ?_
  refine aw_newa (t := 0) (atype := .int) 251 80 (by decide) rfl tw_51 (hn102 251 (by decide) (by decide)) (by decide) xs0 (by decide) (by decide) (by decide) (Nat.le_of_ble_eq_true rfl) (Nat.le_of_ble_eq_true rfl) d_X12_init_432 ?_
  refine aw_putrF (k0 := 68) kc_12 (ss_n hs101 (by decide)) (Nat.le_of_ble_eq_true rfl) tw_1810 d_X12_init_434 rfl rfl rfl rfl ?_
  have hs103 := ss_step (k := 251) (t := 0) (n := 80) (c' := 1) (s := 68) (r := some 251) hs101 (by decide)
  have hn104 := nn_step (k := 251) (t := 0) (n := 80) (c := 1) (s := 68) (r := some 251) hn102
  refine aw_aload_n (i := 0) rfl d_X12_init_437 0 rfl ?_
  refine aw_bipush (v := 80) d_X12_init_438 ib_80 ?_
  refine aw_newa (t := 0) (atype := .int) 252 80 (by decide) rfl tw_51 (hn104 252 (by decide) (by decide)) (by decide) xs0 (by decide) (by decide) (by decide) (Nat.le_of_ble_eq_true rfl) (Nat.le_of_ble_eq_true rfl) d_X12_init_440 ?_
  refine aw_putrF (k0 := 69) kc_12 (ss_n hs103 (by decide)) (Nat.le_of_ble_eq_true rfl) tw_1811 d_X12_init_442 rfl rfl rfl rfl ?_
  have hs105 := ss_step (k := 252) (t := 0) (n := 80) (c' := 1) (s := 69) (r := some 252) hs103 (by decide)
  have hn106 := nn_step (k := 252) (t := 0) (n := 80) (c := 1) (s := 69) (r := some 252) hn104
  refine aw_aload_n (i := 0) rfl d_X12_init_445 0 rfl ?_
  refine aw_bipush (v := 80) d_X12_init_446 ib_80 ?_
  refine aw_newa (t := 0) (atype := .int) 253 80 (by decide) rfl tw_51 (hn106 253 (by decide) (by decide)) (by decide) xs0 (by decide) (by decide) (by decide) (Nat.le_of_ble_eq_true rfl) (Nat.le_of_ble_eq_true rfl) d_X12_init_448 ?_
  refine aw_putrF (k0 := 70) kc_12 (ss_n hs105 (by decide)) (Nat.le_of_ble_eq_true rfl) tw_1812 d_X12_init_450 rfl rfl rfl rfl ?_
  have hs107 := ss_step (k := 253) (t := 0) (n := 80) (c' := 1) (s := 70) (r := some 253) hs105 (by decide)
  have hn108 := nn_step (k := 253) (t := 0) (n := 80) (c := 1) (s := 70) (r := some 253) hn106
  refine aw_aload_n (i := 0) rfl d_X12_init_453 0 rfl ?_
  refine aw_bipush (v := 80) d_X12_init_454 ib_80 ?_
  refine aw_newa (t := 1) (atype := .boolean) 254 80 (by decide) rfl tw_252 (hn108 254 (by decide) (by decide)) (by decide) xs0 (by decide) (by decide) (by decide) (Nat.le_of_ble_eq_true rfl) (Nat.le_of_ble_eq_true rfl) d_X12_init_456 ?_
  refine aw_putrF (k0 := 71) kc_12 (ss_n hs107 (by decide)) (Nat.le_of_ble_eq_true rfl) tw_1813 d_X12_init_458 rfl rfl rfl rfl ?_
  have hs109 := ss_step (k := 254) (t := 1) (n := 80) (c' := 1) (s := 71) (r := some 254) hs107 (by decide)
  have hn110 := nn_step (k := 254) (t := 1) (n := 80) (c := 1) (s := 71) (r := some 254) hn108
  refine aw_aload_n (i := 0) rfl d_X12_init_461 0 rfl ?_
  refine aw_sipush (v := 300) d_X12_init_462 is_300 ?_
  refine aw_newa (t := 0) (atype := .int) 255 300 (by decide) rfl tw_51 (hn110 255 (by decide) (by decide)) (by decide) xs0 (by decide) (by decide) (by decide) (Nat.le_of_ble_eq_true rfl) (Nat.le_of_ble_eq_true rfl) d_X12_init_465 ?_
  refine aw_putrF (k0 := 72) kc_12 (ss_n hs109 (by decide)) (Nat.le_of_ble_eq_true rfl) tw_1814 d_X12_init_467 rfl rfl rfl rfl ?_
  have hs111 := ss_step (k := 255) (t := 0) (n := 300) (c' := 1) (s := 72) (r := some 255) hs109 (by decide)
  have hn112 := nn_step (k := 255) (t := 0) (n := 300) (c := 1) (s := 72) (r := some 255) hn110
  refine aw_aload_n (i := 0) rfl d_X12_init_470 0 rfl ?_
  refine aw_sipush (v := 300) d_X12_init_471 is_300 ?_
  refine aw_newa (t := 0) (atype := .int) 256 300 (by decide) rfl tw_51 (hn112 256 (by decide) (by decide)) (by decide) xs0 (by decide) (by decide) (by decide) (Nat.le_of_ble_eq_true rfl) (Nat.le_of_ble_eq_true rfl) d_X12_init_474 ?_
  refine aw_putrF (k0 := 73) kc_12 (ss_n hs111 (by decide)) (Nat.le_of_ble_eq_true rfl) tw_1815 d_X12_init_476 rfl rfl rfl rfl ?_
  have hs113 := ss_step (k := 256) (t := 0) (n := 300) (c' := 1) (s := 73) (r := some 256) hs111 (by decide)
  have hn114 := nn_step (k := 256) (t := 0) (n := 300) (c := 1) (s := 73) (r := some 256) hn112
  refine aw_aload_n (i := 0) rfl d_X12_init_479 0 rfl ?_
  refine aw_sipush (v := 300) d_X12_init_480 is_300 ?_
  refine aw_newa (t := 0) (atype := .int) 257 300 (by decide) rfl tw_51 (hn114 257 (by decide) (by decide)) (by decide) xs0 (by decide) (by decide) (by decide) (Nat.le_of_ble_eq_true rfl) (Nat.le_of_ble_eq_true rfl) d_X12_init_483 ?_
  refine aw_putrF (k0 := 74) kc_12 (ss_n hs113 (by decide)) (Nat.le_of_ble_eq_true rfl) tw_1816 d_X12_init_485 rfl rfl rfl rfl ?_
  have hs115 := ss_step (k := 257) (t := 0) (n := 300) (c' := 1) (s := 74) (r := some 257) hs113 (by decide)
  have hn116 := nn_step (k := 257) (t := 0) (n := 300) (c := 1) (s := 74) (r := some 257) hn114
  refine aw_aload_n (i := 0) rfl d_X12_init_488 0 rfl ?_
  refine aw_sipush (v := 300) d_X12_init_489 is_300 ?_
  refine aw_newa (t := 0) (atype := .int) 258 300 (by decide) rfl tw_51 (hn116 258 (by decide) (by decide)) (by decide) xs0 (by decide) (by decide) (by decide) (Nat.le_of_ble_eq_true rfl) (Nat.le_of_ble_eq_true rfl) d_X12_init_492 ?_
  refine aw_putrF (k0 := 75) kc_12 (ss_n hs115 (by decide)) (Nat.le_of_ble_eq_true rfl) tw_1817 d_X12_init_494 rfl rfl rfl rfl ?_
  have hs117 := ss_step (k := 258) (t := 0) (n := 300) (c' := 1) (s := 75) (r := some 258) hs115 (by decide)
  have hn118 := nn_step (k := 258) (t := 0) (n := 300) (c := 1) (s := 75) (r := some 258) hn116
  refine aw_aload_n (i := 0) rfl d_X12_init_497 0 rfl ?_
  refine aw_sipush (v := 300) d_X12_init_498 is_300 ?_
  refine aw_newa (t := 0) (atype := .int) 259 300 (by decide) rfl tw_51 (hn118 259 (by decide) (by decide)) (by decide) xs0 (by decide) (by decide) (by decide) (Nat.le_of_ble_eq_true rfl) (Nat.le_of_ble_eq_true rfl) d_X12_init_501 ?_
  refine aw_putrF (k0 := 76) kc_12 (ss_n hs117 (by decide)) (Nat.le_of_ble_eq_true rfl) tw_1818 d_X12_init_503 rfl rfl rfl rfl ?_
  have hs119 := ss_step (k := 259) (t := 0) (n := 300) (c' := 1) (s := 76) (r := some 259) hs117 (by decide)
  have hn120 := nn_step (k := 259) (t := 0) (n := 300) (c := 1) (s := 76) (r := some 259) hn118
  refine aw_aload_n (i := 0) rfl d_X12_init_506 0 rfl ?_
  refine aw_sipush (v := 300) d_X12_init_507 is_300 ?_
  refine aw_newa (t := 0) (atype := .int) 260 300 (by decide) rfl tw_51 (hn120 260 (by decide) (by decide)) (by decide) xs0 (by decide) (by decide) (by decide) (Nat.le_of_ble_eq_true rfl) (Nat.le_of_ble_eq_true rfl) d_X12_init_510 ?_
  refine aw_putrF (k0 := 77) kc_12 (ss_n hs119 (by decide)) (Nat.le_of_ble_eq_true rfl) tw_1819 d_X12_init_512 rfl rfl rfl rfl ?_
  have hs121 := ss_step (k := 260) (t := 0) (n := 300) (c' := 1) (s := 77) (r := some 260) hs119 (by decide)
  have hn122 := nn_step (k := 260) (t := 0) (n := 300) (c := 1) (s := 77) (r := some 260) hn120
  refine aw_aload_n (i := 0) rfl d_X12_init_515 0 rfl ?_
  refine aw_sipush (v := 2700) d_X12_init_516 is_2700 ?_
  refine aw_newa (t := 0) (atype := .int) 261 2700 (by decide) rfl tw_51 (hn122 261 (by decide) (by decide)) (by decide) xs0 (by decide) (by decide) (by decide) (Nat.le_of_ble_eq_true rfl) (Nat.le_of_ble_eq_true rfl) d_X12_init_519 ?_
  refine aw_putrF (k0 := 78) kc_12 (ss_n hs121 (by decide)) (Nat.le_of_ble_eq_true rfl) tw_1820 d_X12_init_521 rfl rfl rfl rfl ?_
  have hs123 := ss_step (k := 261) (t := 0) (n := 2700) (c' := 1) (s := 78) (r := some 261) hs121 (by decide)
  have hn124 := nn_step (k := 261) (t := 0) (n := 2700) (c := 1) (s := 78) (r := some 261) hn122
  refine aw_aload_n (i := 0) rfl d_X12_init_524 0 rfl ?_
  refine aw_bipush (v := 30) d_X12_init_525 ib_30 ?_
  refine aw_newa (t := 0) (atype := .int) 262 30 (by decide) rfl tw_51 (hn124 262 (by decide) (by decide)) (by decide) xs0 (by decide) (by decide) (by decide) (Nat.le_of_ble_eq_true rfl) (Nat.le_of_ble_eq_true rfl) d_X12_init_527 ?_
  refine aw_putrF (k0 := 81) kc_12 (ss_n hs123 (by decide)) (Nat.le_of_ble_eq_true rfl) tw_1823 d_X12_init_529 rfl rfl rfl rfl ?_
  have hs125 := ss_step (k := 262) (t := 0) (n := 30) (c' := 1) (s := 81) (r := some 262) hs123 (by decide)
  have hn126 := nn_step (k := 262) (t := 0) (n := 30) (c := 1) (s := 81) (r := some 262) hn124
  refine aw_aload_n (i := 0) rfl d_X12_init_532 0 rfl ?_
  refine aw_bipush (v := 30) d_X12_init_533 ib_30 ?_
  refine aw_newa (t := 0) (atype := .int) 263 30 (by decide) rfl tw_51 (hn126 263 (by decide) (by decide)) (by decide) xs0 (by decide) (by decide) (by decide) (Nat.le_of_ble_eq_true rfl) (Nat.le_of_ble_eq_true rfl) d_X12_init_535 ?_
  refine aw_putrF (k0 := 82) kc_12 (ss_n hs125 (by decide)) (Nat.le_of_ble_eq_true rfl) tw_1824 d_X12_init_537 rfl rfl rfl rfl ?_
  have hs127 := ss_step (k := 263) (t := 0) (n := 30) (c' := 1) (s := 82) (r := some 263) hs125 (by decide)
  have hn128 := nn_step (k := 263) (t := 0) (n := 30) (c := 1) (s := 82) (r := some 263) hn126
  refine aw_aload_n (i := 0) rfl d_X12_init_540 0 rfl ?_
  refine aw_bipush (v := 10) d_X12_init_541 ib_10 ?_
  refine aw_newa (t := 0) (atype := .int) 264 10 (by decide) rfl tw_51 (hn128 264 (by decide) (by decide)) (by decide) xs0 (by decide) (by decide) (by decide) (Nat.le_of_ble_eq_true rfl) (Nat.le_of_ble_eq_true rfl) d_X12_init_543 ?_
  refine aw_putrF (k0 := 83) kc_12 (ss_n hs127 (by decide)) (Nat.le_of_ble_eq_true rfl) tw_1825 d_X12_init_545 rfl rfl rfl rfl ?_
  have hs129 := ss_step (k := 264) (t := 0) (n := 10) (c' := 1) (s := 83) (r := some 264) hs127 (by decide)
  have hn130 := nn_step (k := 264) (t := 0) (n := 10) (c := 1) (s := 83) (r := some 264) hn128
  refine aw_aload_n (i := 0) rfl d_X12_init_548 0 rfl ?_
  refine aw_bipush (v := 8) d_X12_init_549 ib_8 ?_
  refine aw_newa (t := 0) (atype := .int) 265 8 (by decide) rfl tw_51 (hn130 265 (by decide) (by decide)) (by decide) xs0 (by decide) (by decide) (by decide) (Nat.le_of_ble_eq_true rfl) (Nat.le_of_ble_eq_true rfl) d_X12_init_551 ?_
  refine aw_putrF (k0 := 84) kc_12 (ss_n hs129 (by decide)) (Nat.le_of_ble_eq_true rfl) tw_1826 d_X12_init_553 rfl rfl rfl rfl ?_
  have hs131 := ss_step (k := 265) (t := 0) (n := 8) (c' := 1) (s := 84) (r := some 265) hs129 (by decide)
  have hn132 := nn_step (k := 265) (t := 0) (n := 8) (c := 1) (s := 84) (r := some 265) hn130
  have tr133 := rr_of hs131
  have ts134 := sh_of hs131
  refine aw_aload_n (i := 0) rfl d_X12_init_556 0 rfl ?_
  refine aw_sipush (v := 200) d_X12_init_557 is_200 ?_
  refine aw_newa (t := 0) (atype := .int) 266 200 (by decide) rfl tw_51 (hn132 266 (by decide) (by decide)) (by decide) xs0 (by decide) (by decide) (by decide) (Nat.le_of_ble_eq_true rfl) (Nat.le_of_ble_eq_true rfl) d_X12_init_560 ?_
  refine aw_putrF (k0 := 85) kc_12 (ss_n hs131 (by decide)) (Nat.le_of_ble_eq_true rfl) tw_1827 d_X12_init_562 rfl rfl rfl rfl ?_
  have hs135 := ss_step (k := 266) (t := 0) (n := 200) (c' := 1) (s := 85) (r := some 266) hs131 (by decide)
  have hn136 := nn_step (k := 266) (t := 0) (n := 200) (c := 1) (s := 85) (r := some 266) hn132
  have tr137 := rr_step (k := 266) (t := 0) (n := 200) (c := 1) (s := 85) (r := some 266) tr133 (by decide) (by decide)
  have ts138 := ss_step (k := 266) (t := 0) (n := 200) (c' := 1) (s := 85) (r := some 266) ts134 (by decide)
  refine aw_aload_n (i := 0) rfl d_X12_init_565 0 rfl ?_
  refine aw_sipush (v := 200) d_X12_init_566 is_200 ?_
  refine aw_newa (t := 0) (atype := .int) 267 200 (by decide) rfl tw_51 (hn136 267 (by decide) (by decide)) (by decide) xs0 (by decide) (by decide) (by decide) (Nat.le_of_ble_eq_true rfl) (Nat.le_of_ble_eq_true rfl) d_X12_init_569 ?_
  refine aw_putrF (k0 := 86) kc_12 (ss_n hs135 (by decide)) (Nat.le_of_ble_eq_true rfl) tw_1828 d_X12_init_571 rfl rfl rfl rfl ?_
  have hs139 := ss_step (k := 267) (t := 0) (n := 200) (c' := 1) (s := 86) (r := some 267) hs135 (by decide)
  have hn140 := nn_step (k := 267) (t := 0) (n := 200) (c := 1) (s := 86) (r := some 267) hn136
  have tr141 := rr_step (k := 267) (t := 0) (n := 200) (c := 1) (s := 86) (r := some 267) tr137 (by decide) (by decide)
  have ts142 := ss_step (k := 267) (t := 0) (n := 200) (c' := 1) (s := 86) (r := some 267) ts138 (by decide)
  refine aw_aload_n (i := 0) rfl d_X12_init_574 0 rfl ?_
  refine aw_sipush (v := 200) d_X12_init_575 is_200 ?_
  refine aw_newa (t := 0) (atype := .int) 268 200 (by decide) rfl tw_51 (hn140 268 (by decide) (by decide)) (by decide) xs0 (by decide) (by decide) (by decide) (Nat.le_of_ble_eq_true rfl) (Nat.le_of_ble_eq_true rfl) d_X12_init_578 ?_
  refine aw_putrF (k0 := 87) kc_12 (ss_n hs139 (by decide)) (Nat.le_of_ble_eq_true rfl) tw_1829 d_X12_init_580 rfl rfl rfl rfl ?_
  have hs143 := ss_step (k := 268) (t := 0) (n := 200) (c' := 1) (s := 87) (r := some 268) hs139 (by decide)
  have hn144 := nn_step (k := 268) (t := 0) (n := 200) (c := 1) (s := 87) (r := some 268) hn140
  have tr145 := rr_step (k := 268) (t := 0) (n := 200) (c := 1) (s := 87) (r := some 268) tr141 (by decide) (by decide)
  have ts146 := ss_step (k := 268) (t := 0) (n := 200) (c' := 1) (s := 87) (r := some 268) ts142 (by decide)
  refine aw_aload_n (i := 0) rfl d_X12_init_583 0 rfl ?_
  refine aw_sipush (v := 200) d_X12_init_584 is_200 ?_
  refine aw_newa (t := 0) (atype := .int) 269 200 (by decide) rfl tw_51 (hn144 269 (by decide) (by decide)) (by decide) xs0 (by decide) (by decide) (by decide) (Nat.le_of_ble_eq_true rfl) (Nat.le_of_ble_eq_true rfl) d_X12_init_587 ?_
  refine aw_putrF (k0 := 88) kc_12 (ss_n hs143 (by decide)) (Nat.le_of_ble_eq_true rfl) tw_1830 d_X12_init_589 rfl rfl rfl rfl ?_
  have hs147 := ss_step (k := 269) (t := 0) (n := 200) (c' := 1) (s := 88) (r := some 269) hs143 (by decide)
  have hn148 := nn_step (k := 269) (t := 0) (n := 200) (c := 1) (s := 88) (r := some 269) hn144
  have tr149 := rr_step (k := 269) (t := 0) (n := 200) (c := 1) (s := 88) (r := some 269) tr145 (by decide) (by decide)
  have ts150 := ss_step (k := 269) (t := 0) (n := 200) (c' := 1) (s := 88) (r := some 269) ts146 (by decide)
  refine aw_aload_n (i := 0) rfl d_X12_init_592 0 rfl ?_
  refine aw_sipush (v := 200) d_X12_init_593 is_200 ?_
  refine aw_newa (t := 1) (atype := .boolean) 270 200 (by decide) rfl tw_252 (hn148 270 (by decide) (by decide)) (by decide) xs0 (by decide) (by decide) (by decide) (Nat.le_of_ble_eq_true rfl) (Nat.le_of_ble_eq_true rfl) d_X12_init_596 ?_
  refine aw_putrF (k0 := 89) kc_12 (ss_n hs147 (by decide)) (Nat.le_of_ble_eq_true rfl) tw_1831 d_X12_init_598 rfl rfl rfl rfl ?_
  have hs151 := ss_step (k := 270) (t := 1) (n := 200) (c' := 1) (s := 89) (r := some 270) hs147 (by decide)
  have hn152 := nn_step (k := 270) (t := 1) (n := 200) (c := 1) (s := 89) (r := some 270) hn148
  have tr153 := rr_step (k := 270) (t := 1) (n := 200) (c := 1) (s := 89) (r := some 270) tr149 (by decide) (by decide)
  have ts154 := ss_step (k := 270) (t := 1) (n := 200) (c' := 1) (s := 89) (r := some 270) ts150 (by decide)
  refine aw_aload_n (i := 0) rfl d_X12_init_601 0 rfl ?_
  refine aw_bipush (v := 16) d_X12_init_602 ib_16 ?_
  refine aw_newa (t := 0) (atype := .int) 271 16 (by decide) rfl tw_51 (hn152 271 (by decide) (by decide)) (by decide) xs0 (by decide) (by decide) (by decide) (Nat.le_of_ble_eq_true rfl) (Nat.le_of_ble_eq_true rfl) d_X12_init_604 ?_
  refine aw_putrF (k0 := 90) kc_12 (ss_n hs151 (by decide)) (Nat.le_of_ble_eq_true rfl) tw_1832 d_X12_init_606 rfl rfl rfl rfl ?_
  have hs155 := ss_step (k := 271) (t := 0) (n := 16) (c' := 1) (s := 90) (r := some 271) hs151 (by decide)
  have hn156 := nn_step (k := 271) (t := 0) (n := 16) (c := 1) (s := 90) (r := some 271) hn152
  have tr157 := rr_step (k := 271) (t := 0) (n := 16) (c := 1) (s := 90) (r := some 271) tr153 (by decide) (by decide)
  have ts158 := ss_step (k := 271) (t := 0) (n := 16) (c' := 1) (s := 90) (r := some 271) ts154 (by decide)
  refine aw_aload_n (i := 0) rfl d_X12_init_609 0 rfl ?_
  refine aw_bipush (v := 16) d_X12_init_610 ib_16 ?_
  refine aw_newa (t := 1) (atype := .boolean) 272 16 (by decide) rfl tw_252 (hn156 272 (by decide) (by decide)) (by decide) xs0 (by decide) (by decide) (by decide) (Nat.le_of_ble_eq_true rfl) (Nat.le_of_ble_eq_true rfl) d_X12_init_612 ?_
  refine aw_putrF (k0 := 91) kc_12 (ss_n hs155 (by decide)) (Nat.le_of_ble_eq_true rfl) tw_1833 d_X12_init_614 rfl rfl rfl rfl ?_
  have hs159 := ss_step (k := 272) (t := 1) (n := 16) (c' := 1) (s := 91) (r := some 272) hs155 (by decide)
  have hn160 := nn_step (k := 272) (t := 1) (n := 16) (c := 1) (s := 91) (r := some 272) hn156
  have tr161 := rr_step (k := 272) (t := 1) (n := 16) (c := 1) (s := 91) (r := some 272) tr157 (by decide) (by decide)
  have ts162 := ss_step (k := 272) (t := 1) (n := 16) (c' := 1) (s := 91) (r := some 272) ts158 (by decide)
  refine aw_aload_n (i := 0) rfl d_X12_init_617 0 rfl ?_
  refine aw_sipush (v := 180) d_X12_init_618 is_180 ?_
  refine aw_newa (t := 0) (atype := .int) 273 180 (by decide) rfl tw_51 (hn160 273 (by decide) (by decide)) (by decide) xs0 (by decide) (by decide) (by decide) (Nat.le_of_ble_eq_true rfl) (Nat.le_of_ble_eq_true rfl) d_X12_init_621 ?_
  refine aw_putrF (k0 := 92) kc_12 (ss_n hs159 (by decide)) (Nat.le_of_ble_eq_true rfl) tw_1834 d_X12_init_623 rfl rfl rfl rfl ?_
  have hs163 := ss_step (k := 273) (t := 0) (n := 180) (c' := 1) (s := 92) (r := some 273) hs159 (by decide)
  have hn164 := nn_step (k := 273) (t := 0) (n := 180) (c := 1) (s := 92) (r := some 273) hn160
  have tr165 := rr_step (k := 273) (t := 0) (n := 180) (c := 1) (s := 92) (r := some 273) tr161 (by decide) (by decide)
  have ts166 := ss_step (k := 273) (t := 0) (n := 180) (c' := 1) (s := 92) (r := some 273) ts162 (by decide)
  refine aw_aload_n (i := 0) rfl d_X12_init_626 0 rfl ?_
  refine aw_sipush (v := 180) d_X12_init_627 is_180 ?_
  refine aw_newa (t := 0) (atype := .int) 274 180 (by decide) rfl tw_51 (hn164 274 (by decide) (by decide)) (by decide) xs0 (by decide) (by decide) (by decide) (Nat.le_of_ble_eq_true rfl) (Nat.le_of_ble_eq_true rfl) d_X12_init_630 ?_
  refine aw_putrF (k0 := 93) kc_12 (ss_n hs163 (by decide)) (Nat.le_of_ble_eq_true rfl) tw_1835 d_X12_init_632 rfl rfl rfl rfl ?_
  have hs167 := ss_step (k := 274) (t := 0) (n := 180) (c' := 1) (s := 93) (r := some 274) hs163 (by decide)
  have hn168 := nn_step (k := 274) (t := 0) (n := 180) (c := 1) (s := 93) (r := some 274) hn164
  have tr169 := rr_step (k := 274) (t := 0) (n := 180) (c := 1) (s := 93) (r := some 274) tr165 (by decide) (by decide)
  have ts170 := ss_step (k := 274) (t := 0) (n := 180) (c' := 1) (s := 93) (r := some 274) ts166 (by decide)
  refine aw_aload_n (i := 0) rfl d_X12_init_635 0 rfl ?_
  refine aw_sipush (v := 180) d_X12_init_636 is_180 ?_
  refine aw_newa (t := 0) (atype := .int) 275 180 (by decide) rfl tw_51 (hn168 275 (by decide) (by decide)) (by decide) xs0 (by decide) (by decide) (by decide) (Nat.le_of_ble_eq_true rfl) (Nat.le_of_ble_eq_true rfl) d_X12_init_639 ?_
  refine aw_putrF (k0 := 94) kc_12 (ss_n hs167 (by decide)) (Nat.le_of_ble_eq_true rfl) tw_1836 d_X12_init_641 rfl rfl rfl rfl ?_
  have hs171 := ss_step (k := 275) (t := 0) (n := 180) (c' := 1) (s := 94) (r := some 275) hs167 (by decide)
  have hn172 := nn_step (k := 275) (t := 0) (n := 180) (c := 1) (s := 94) (r := some 275) hn168
  have tr173 := rr_step (k := 275) (t := 0) (n := 180) (c := 1) (s := 94) (r := some 275) tr169 (by decide) (by decide)
  have ts174 := ss_step (k := 275) (t := 0) (n := 180) (c' := 1) (s := 94) (r := some 275) ts170 (by decide)
  refine aw_aload_n (i := 0) rfl d_X12_init_644 0 rfl ?_
  refine aw_bipush (v := 30) d_X12_init_645 ib_30 ?_
  refine aw_newa (t := 0) (atype := .int) 276 30 (by decide) rfl tw_51 (hn172 276 (by decide) (by decide)) (by decide) xs0 (by decide) (by decide) (by decide) (Nat.le_of_ble_eq_true rfl) (Nat.le_of_ble_eq_true rfl) d_X12_init_647 ?_
  refine aw_putrF (k0 := 95) kc_12 (ss_n hs171 (by decide)) (Nat.le_of_ble_eq_true rfl) tw_1837 d_X12_init_649 rfl rfl rfl rfl ?_
  have hs175 := ss_step (k := 276) (t := 0) (n := 30) (c' := 1) (s := 95) (r := some 276) hs171 (by decide)
  have hn176 := nn_step (k := 276) (t := 0) (n := 30) (c := 1) (s := 95) (r := some 276) hn172
  have tr177 := rr_step (k := 276) (t := 0) (n := 30) (c := 1) (s := 95) (r := some 276) tr173 (by decide) (by decide)
  have ts178 := ss_step (k := 276) (t := 0) (n := 30) (c' := 1) (s := 95) (r := some 276) ts174 (by decide)
  refine aw_aload_n (i := 0) rfl d_X12_init_652 0 rfl ?_
  refine aw_bipush (v := 30) d_X12_init_653 ib_30 ?_
  refine aw_newa (t := 0) (atype := .int) 277 30 (by decide) rfl tw_51 (hn176 277 (by decide) (by decide)) (by decide) xs0 (by decide) (by decide) (by decide) (Nat.le_of_ble_eq_true rfl) (Nat.le_of_ble_eq_true rfl) d_X12_init_655 ?_
  refine aw_putrF (k0 := 98) kc_12 (ss_n hs175 (by decide)) (Nat.le_of_ble_eq_true rfl) tw_1840 d_X12_init_657 rfl rfl rfl rfl ?_
  have hs179 := ss_step (k := 277) (t := 0) (n := 30) (c' := 1) (s := 98) (r := some 277) hs175 (by decide)
  have hn180 := nn_step (k := 277) (t := 0) (n := 30) (c := 1) (s := 98) (r := some 277) hn176
  have tr181 := rr_step (k := 277) (t := 0) (n := 30) (c := 1) (s := 98) (r := some 277) tr177 (by decide) (by decide)
  have ts182 := ss_step (k := 277) (t := 0) (n := 30) (c' := 1) (s := 98) (r := some 277) ts178 (by decide)
  refine aw_aload_n (i := 0) rfl d_X12_init_660 0 rfl ?_
  refine aw_bipush (v := 8) d_X12_init_661 ib_8 ?_
  refine aw_newa (t := 0) (atype := .int) 278 8 (by decide) rfl tw_51 (hn180 278 (by decide) (by decide)) (by decide) xs0 (by decide) (by decide) (by decide) (Nat.le_of_ble_eq_true rfl) (Nat.le_of_ble_eq_true rfl) d_X12_init_663 ?_
  refine aw_putrF (k0 := 99) kc_12 (ss_n hs179 (by decide)) (Nat.le_of_ble_eq_true rfl) tw_1841 d_X12_init_665 rfl rfl rfl rfl ?_
  have hs183 := ss_step (k := 278) (t := 0) (n := 8) (c' := 1) (s := 99) (r := some 278) hs179 (by decide)
  have hn184 := nn_step (k := 278) (t := 0) (n := 8) (c := 1) (s := 99) (r := some 278) hn180
  have tr185 := rr_step (k := 278) (t := 0) (n := 8) (c := 1) (s := 99) (r := some 278) tr181 (by decide) (by decide)
  have ts186 := ss_step (k := 278) (t := 0) (n := 8) (c' := 1) (s := 99) (r := some 278) ts182 (by decide)
  refine aw_aload_n (i := 0) rfl d_X12_init_668 0 rfl ?_
  refine aw_bipush (v := 8) d_X12_init_669 ib_8 ?_
  refine aw_newa (t := 0) (atype := .int) 279 8 (by decide) rfl tw_51 (hn184 279 (by decide) (by decide)) (by decide) xs0 (by decide) (by decide) (by decide) (Nat.le_of_ble_eq_true rfl) (Nat.le_of_ble_eq_true rfl) d_X12_init_671 ?_
  refine aw_putrF (k0 := 100) kc_12 (ss_n hs183 (by decide)) (Nat.le_of_ble_eq_true rfl) tw_1842 d_X12_init_673 rfl rfl rfl rfl ?_
  have hs187 := ss_step (k := 279) (t := 0) (n := 8) (c' := 1) (s := 100) (r := some 279) hs183 (by decide)
  have hn188 := nn_step (k := 279) (t := 0) (n := 8) (c := 1) (s := 100) (r := some 279) hn184
  have tr189 := rr_step (k := 279) (t := 0) (n := 8) (c := 1) (s := 100) (r := some 279) tr185 (by decide) (by decide)
  have ts190 := ss_step (k := 279) (t := 0) (n := 8) (c' := 1) (s := 100) (r := some 279) ts186 (by decide)
  refine aw_aload_n (i := 0) rfl d_X12_init_676 0 rfl ?_
  refine aw_iconst (v := 3) d_X12_init_677 ic_3 ?_
  refine aw_puti (k0 := 103) kc_12 hs187 (Nat.le_of_ble_eq_true rfl) tw_1845 d_X12_init_678 rfl rfl nf_i ?_
  have hs191 := ss_im (a := 1) (k := 103) (x := 3) hs187
  have hn192 := nn_im (b := 1) (k := 103) (x := 3) hn188
  have tr193 := rr_im (a := 1) (k := 103) (x := 3) tr189
  have ts194 := ss_im (a := 1) (k := 103) (x := 3) ts190
  refine aw_aload_n (i := 0) rfl d_X12_init_681 0 rfl ?_
  refine aw_sipush (v := 2304) d_X12_init_682 is_2304 ?_
  refine aw_newa (t := 0) (atype := .int) 280 2304 (by decide) rfl tw_51 (hn192 280 (by decide) (by decide)) (by decide) xs0 (by decide) (by decide) (by decide) (Nat.le_of_ble_eq_true rfl) (Nat.le_of_ble_eq_true rfl) d_X12_init_685 ?_
  refine aw_putrF (k0 := 104) kc_12 (ss_n hs191 (by decide)) (Nat.le_of_ble_eq_true rfl) tw_1846 d_X12_init_687 rfl rfl rfl rfl ?_
  have hs195 := ss_step (k := 280) (t := 0) (n := 2304) (c' := 1) (s := 104) (r := some 280) hs191 (by decide)
  have hn196 := nn_step (k := 280) (t := 0) (n := 2304) (c := 1) (s := 104) (r := some 280) hn192
  have tr197 := rr_step (k := 280) (t := 0) (n := 2304) (c := 1) (s := 104) (r := some 280) tr193 (by decide) (by decide)
  have ts198 := ss_step (k := 280) (t := 0) (n := 2304) (c' := 1) (s := 104) (r := some 280) ts194 (by decide)
  refine aw_aload_n (i := 0) rfl d_X12_init_690 0 rfl ?_
  refine aw_bipush (v := 8) d_X12_init_691 ib_8 ?_
  refine aw_newa (t := 0) (atype := .int) 281 8 (by decide) rfl tw_51 (hn196 281 (by decide) (by decide)) (by decide) xs0 (by decide) (by decide) (by decide) (Nat.le_of_ble_eq_true rfl) (Nat.le_of_ble_eq_true rfl) d_X12_init_693 ?_
  refine aw_putrF (k0 := 105) kc_12 (ss_n hs195 (by decide)) (Nat.le_of_ble_eq_true rfl) tw_1847 d_X12_init_695 rfl rfl rfl rfl ?_
  have hs199 := ss_step (k := 281) (t := 0) (n := 8) (c' := 1) (s := 105) (r := some 281) hs195 (by decide)
  have hn200 := nn_step (k := 281) (t := 0) (n := 8) (c := 1) (s := 105) (r := some 281) hn196
  have tr201 := rr_step (k := 281) (t := 0) (n := 8) (c := 1) (s := 105) (r := some 281) tr197 (by decide) (by decide)
  have ts202 := ss_step (k := 281) (t := 0) (n := 8) (c' := 1) (s := 105) (r := some 281) ts198 (by decide)
  refine aw_aload_n (i := 0) rfl d_X12_init_698 0 rfl ?_
  refine aw_bipush (v := 8) d_X12_init_699 ib_8 ?_
  refine aw_newa (t := 0) (atype := .int) 282 8 (by decide) rfl tw_51 (hn200 282 (by decide) (by decide)) (by decide) xs0 (by decide) (by decide) (by decide) (Nat.le_of_ble_eq_true rfl) (Nat.le_of_ble_eq_true rfl) d_X12_init_701 ?_
  refine aw_putrF (k0 := 106) kc_12 (ss_n hs199 (by decide)) (Nat.le_of_ble_eq_true rfl) tw_1848 d_X12_init_703 rfl rfl rfl rfl ?_
  have hs203 := ss_step (k := 282) (t := 0) (n := 8) (c' := 1) (s := 106) (r := some 282) hs199 (by decide)
  have hn204 := nn_step (k := 282) (t := 0) (n := 8) (c := 1) (s := 106) (r := some 282) hn200
  have tr205 := rr_step (k := 282) (t := 0) (n := 8) (c := 1) (s := 106) (r := some 282) tr201 (by decide) (by decide)
  have ts206 := ss_step (k := 282) (t := 0) (n := 8) (c' := 1) (s := 106) (r := some 282) ts202 (by decide)
  refine aw_aload_n (i := 0) rfl d_X12_init_706 0 rfl ?_
  refine aw_bipush (v := 8) d_X12_init_707 ib_8 ?_
  refine aw_newa (t := 0) (atype := .int) 283 8 (by decide) rfl tw_51 (hn204 283 (by decide) (by decide)) (by decide) xs0 (by decide) (by decide) (by decide) (Nat.le_of_ble_eq_true rfl) (Nat.le_of_ble_eq_true rfl) d_X12_init_709 ?_
  refine aw_putrF (k0 := 107) kc_12 (ss_n hs203 (by decide)) (Nat.le_of_ble_eq_true rfl) tw_1849 d_X12_init_711 rfl rfl rfl rfl ?_
  have hs207 := ss_step (k := 283) (t := 0) (n := 8) (c' := 1) (s := 107) (r := some 283) hs203 (by decide)
  have hn208 := nn_step (k := 283) (t := 0) (n := 8) (c := 1) (s := 107) (r := some 283) hn204
  have tr209 := rr_step (k := 283) (t := 0) (n := 8) (c := 1) (s := 107) (r := some 283) tr205 (by decide) (by decide)
  have ts210 := ss_step (k := 283) (t := 0) (n := 8) (c' := 1) (s := 107) (r := some 283) ts206 (by decide)
  refine aw_aload_n (i := 0) rfl d_X12_init_714 0 rfl ?_
  refine aw_iconst (v := 5) d_X12_init_715 ic_5 ?_
  refine aw_newa (t := 0) (atype := .int) 284 5 (by decide) rfl tw_51 (hn208 284 (by decide) (by decide)) (by decide) xs0 (by decide) (by decide) (by decide) (Nat.le_of_ble_eq_true rfl) (Nat.le_of_ble_eq_true rfl) d_X12_init_716 ?_
  refine aw_putrF (k0 := 109) kc_12 (ss_n hs207 (by decide)) (Nat.le_of_ble_eq_true rfl) tw_1851 d_X12_init_718 rfl rfl rfl rfl ?_
  have hs211 := ss_step (k := 284) (t := 0) (n := 5) (c' := 1) (s := 109) (r := some 284) hs207 (by decide)
  have hn212 := nn_step (k := 284) (t := 0) (n := 5) (c := 1) (s := 109) (r := some 284) hn208
  have tr213 := rr_step (k := 284) (t := 0) (n := 5) (c := 1) (s := 109) (r := some 284) tr209 (by decide) (by decide)
  have ts214 := ss_step (k := 284) (t := 0) (n := 5) (c' := 1) (s := 109) (r := some 284) ts210 (by decide)
  refine aw_aload_n (i := 0) rfl d_X12_init_721 0 rfl ?_
  refine aw_iconst (v := 5) d_X12_init_722 ic_5 ?_
  refine aw_newa (t := 0) (atype := .int) 285 5 (by decide) rfl tw_51 (hn212 285 (by decide) (by decide)) (by decide) xs0 (by decide) (by decide) (by decide) (Nat.le_of_ble_eq_true rfl) (Nat.le_of_ble_eq_true rfl) d_X12_init_723 ?_
  refine aw_putrF (k0 := 110) kc_12 (ss_n hs211 (by decide)) (Nat.le_of_ble_eq_true rfl) tw_1852 d_X12_init_725 rfl rfl rfl rfl ?_
  have hs215 := ss_step (k := 285) (t := 0) (n := 5) (c' := 1) (s := 110) (r := some 285) hs211 (by decide)
  have hn216 := nn_step (k := 285) (t := 0) (n := 5) (c := 1) (s := 110) (r := some 285) hn212
  have tr217 := rr_step (k := 285) (t := 0) (n := 5) (c := 1) (s := 110) (r := some 285) tr213 (by decide) (by decide)
  have ts218 := ss_step (k := 285) (t := 0) (n := 5) (c' := 1) (s := 110) (r := some 285) ts214 (by decide)
  refine aw_aload_n (i := 0) rfl d_X12_init_728 0 rfl ?_
  refine aw_iconst (v := 5) d_X12_init_729 ic_5 ?_
  refine aw_newa (t := 0) (atype := .int) 286 5 (by decide) rfl tw_51 (hn216 286 (by decide) (by decide)) (by decide) xs0 (by decide) (by decide) (by decide) (Nat.le_of_ble_eq_true rfl) (Nat.le_of_ble_eq_true rfl) d_X12_init_730 ?_
  refine aw_putrF (k0 := 111) kc_12 (ss_n hs215 (by decide)) (Nat.le_of_ble_eq_true rfl) tw_1853 d_X12_init_732 rfl rfl rfl rfl ?_
  have hs219 := ss_step (k := 286) (t := 0) (n := 5) (c' := 1) (s := 111) (r := some 286) hs215 (by decide)
  have hn220 := nn_step (k := 286) (t := 0) (n := 5) (c := 1) (s := 111) (r := some 286) hn216
  have tr221 := rr_step (k := 286) (t := 0) (n := 5) (c := 1) (s := 111) (r := some 286) tr217 (by decide) (by decide)
  have ts222 := ss_step (k := 286) (t := 0) (n := 5) (c' := 1) (s := 111) (r := some 286) ts218 (by decide)
  refine aw_aload_n (i := 0) rfl d_X12_init_735 0 rfl ?_
  refine aw_iconst (v := 5) d_X12_init_736 ic_5 ?_
  refine aw_newa (t := 0) (atype := .int) 287 5 (by decide) rfl tw_51 (hn220 287 (by decide) (by decide)) (by decide) xs0 (by decide) (by decide) (by decide) (Nat.le_of_ble_eq_true rfl) (Nat.le_of_ble_eq_true rfl) d_X12_init_737 ?_
  refine aw_putrF (k0 := 112) kc_12 (ss_n hs219 (by decide)) (Nat.le_of_ble_eq_true rfl) tw_1854 d_X12_init_739 rfl rfl rfl rfl ?_
  have hs223 := ss_step (k := 287) (t := 0) (n := 5) (c' := 1) (s := 112) (r := some 287) hs219 (by decide)
  have hn224 := nn_step (k := 287) (t := 0) (n := 5) (c := 1) (s := 112) (r := some 287) hn220
  have tr225 := rr_step (k := 287) (t := 0) (n := 5) (c := 1) (s := 112) (r := some 287) tr221 (by decide) (by decide)
  have ts226 := ss_step (k := 287) (t := 0) (n := 5) (c' := 1) (s := 112) (r := some 287) ts222 (by decide)
  refine aw_aload_n (i := 0) rfl d_X12_init_742 0 rfl ?_
  refine aw_iconst (v := 4) d_X12_init_743 ic_4 ?_
  refine aw_newa (t := 0) (atype := .int) 288 4 (by decide) rfl tw_51 (hn224 288 (by decide) (by decide)) (by decide) xs0 (by decide) (by decide) (by decide) (Nat.le_of_ble_eq_true rfl) (Nat.le_of_ble_eq_true rfl) d_X12_init_744 ?_
  refine aw_putrF (k0 := 116) kc_12 (ss_n hs223 (by decide)) (Nat.le_of_ble_eq_true rfl) tw_1858 d_X12_init_746 rfl rfl rfl rfl ?_
  have hs227 := ss_step (k := 288) (t := 0) (n := 4) (c' := 1) (s := 116) (r := some 288) hs223 (by decide)
  have hn228 := nn_step (k := 288) (t := 0) (n := 4) (c := 1) (s := 116) (r := some 288) hn224
  have tr229 := rr_step (k := 288) (t := 0) (n := 4) (c := 1) (s := 116) (r := some 288) tr225 (by decide) (by decide)
  have ts230 := ss_step (k := 288) (t := 0) (n := 4) (c' := 1) (s := 116) (r := some 288) ts226 (by decide)
  refine aw_aload_n (i := 0) rfl d_X12_init_749 0 rfl ?_
  refine aw_iconst (v := 4) d_X12_init_750 ic_4 ?_
  refine aw_newa (t := 0) (atype := .int) 289 4 (by decide) rfl tw_51 (hn228 289 (by decide) (by decide)) (by decide) xs0 (by decide) (by decide) (by decide) (Nat.le_of_ble_eq_true rfl) (Nat.le_of_ble_eq_true rfl) d_X12_init_751 ?_
  refine aw_putrF (k0 := 117) kc_12 (ss_n hs227 (by decide)) (Nat.le_of_ble_eq_true rfl) tw_1859 d_X12_init_753 rfl rfl rfl rfl ?_
  have hs231 := ss_step (k := 289) (t := 0) (n := 4) (c' := 1) (s := 117) (r := some 289) hs227 (by decide)
  have hn232 := nn_step (k := 289) (t := 0) (n := 4) (c := 1) (s := 117) (r := some 289) hn228
  have tr233 := rr_step (k := 289) (t := 0) (n := 4) (c := 1) (s := 117) (r := some 289) tr229 (by decide) (by decide)
  have ts234 := ss_step (k := 289) (t := 0) (n := 4) (c' := 1) (s := 117) (r := some 289) ts230 (by decide)
  refine aw_aload_n (i := 0) rfl d_X12_init_756 0 rfl ?_
  refine aw_iconst (v := 4) d_X12_init_757 ic_4 ?_
  refine aw_newa (t := 0) (atype := .int) 290 4 (by decide) rfl tw_51 (hn232 290 (by decide) (by decide)) (by decide) xs0 (by decide) (by decide) (by decide) (Nat.le_of_ble_eq_true rfl) (Nat.le_of_ble_eq_true rfl) d_X12_init_758 ?_
  refine aw_putrF (k0 := 118) kc_12 (ss_n hs231 (by decide)) (Nat.le_of_ble_eq_true rfl) tw_1860 d_X12_init_760 rfl rfl rfl rfl ?_
  have hs235 := ss_step (k := 290) (t := 0) (n := 4) (c' := 1) (s := 118) (r := some 290) hs231 (by decide)
  have hn236 := nn_step (k := 290) (t := 0) (n := 4) (c := 1) (s := 118) (r := some 290) hn232
  have tr237 := rr_step (k := 290) (t := 0) (n := 4) (c := 1) (s := 118) (r := some 290) tr233 (by decide) (by decide)
  have ts238 := ss_step (k := 290) (t := 0) (n := 4) (c' := 1) (s := 118) (r := some 290) ts234 (by decide)
  refine aw_aload_n (i := 0) rfl d_X12_init_763 0 rfl ?_
  refine aw_sipush (v := 3328) d_X12_init_764 is_3328 ?_
  refine aw_newa (t := 0) (atype := .int) 291 3328 (by decide) rfl tw_51 (hn236 291 (by decide) (by decide)) (by decide) xs0 (by decide) (by decide) (by decide) (Nat.le_of_ble_eq_true rfl) (Nat.le_of_ble_eq_true rfl) d_X12_init_767 ?_
  refine aw_putrF (k0 := 120) kc_12 (ss_n hs235 (by decide)) (Nat.le_of_ble_eq_true rfl) tw_1862 d_X12_init_769 rfl rfl rfl rfl ?_
  have hs239 := ss_step (k := 291) (t := 0) (n := 3328) (c' := 1) (s := 120) (r := some 291) hs235 (by decide)
  have hn240 := nn_step (k := 291) (t := 0) (n := 3328) (c := 1) (s := 120) (r := some 291) hn236
  have tr241 := rr_step (k := 291) (t := 0) (n := 3328) (c := 1) (s := 120) (r := some 291) tr237 (by decide) (by decide)
  have ts242 := ss_step (k := 291) (t := 0) (n := 3328) (c' := 1) (s := 120) (r := some 291) ts238 (by decide)
  refine aw_aload_n (i := 0) rfl d_X12_init_772 0 rfl ?_
  refine aw_bipush (v := 48) d_X12_init_773 ib_48 ?_
  refine aw_newa (t := 0) (atype := .int) 292 48 (by decide) rfl tw_51 (hn240 292 (by decide) (by decide)) (by decide) xs0 (by decide) (by decide) (by decide) (Nat.le_of_ble_eq_true rfl) (Nat.le_of_ble_eq_true rfl) d_X12_init_775 ?_
  refine aw_putrF (k0 := 121) kc_12 (ss_n hs239 (by decide)) (Nat.le_of_ble_eq_true rfl) tw_1863 d_X12_init_777 rfl rfl rfl rfl ?_
  have hs243 := ss_step (k := 292) (t := 0) (n := 48) (c' := 1) (s := 121) (r := some 292) hs239 (by decide)
  have hn244 := nn_step (k := 292) (t := 0) (n := 48) (c := 1) (s := 121) (r := some 292) hn240
  have tr245 := rr_step (k := 292) (t := 0) (n := 48) (c := 1) (s := 121) (r := some 292) tr241 (by decide) (by decide)
  have ts246 := ss_step (k := 292) (t := 0) (n := 48) (c' := 1) (s := 121) (r := some 292) ts242 (by decide)
  refine aw_aload_n (i := 0) rfl d_X12_init_780 0 rfl ?_
  refine aw_sipush (v := 372) d_X12_init_781 is_372 ?_
  refine aw_newa (t := 0) (atype := .int) 293 372 (by decide) rfl tw_51 (hn244 293 (by decide) (by decide)) (by decide) xs0 (by decide) (by decide) (by decide) (Nat.le_of_ble_eq_true rfl) (Nat.le_of_ble_eq_true rfl) d_X12_init_784 ?_
  refine aw_putrF (k0 := 122) kc_12 (ss_n hs243 (by decide)) (Nat.le_of_ble_eq_true rfl) tw_1864 d_X12_init_786 rfl rfl rfl rfl ?_
  have hs247 := ss_step (k := 293) (t := 0) (n := 372) (c' := 1) (s := 122) (r := some 293) hs243 (by decide)
  have hn248 := nn_step (k := 293) (t := 0) (n := 372) (c := 1) (s := 122) (r := some 293) hn244
  have tr249 := rr_step (k := 293) (t := 0) (n := 372) (c := 1) (s := 122) (r := some 293) tr245 (by decide) (by decide)
  have ts250 := ss_step (k := 293) (t := 0) (n := 372) (c' := 1) (s := 122) (r := some 293) ts246 (by decide)
  refine aw_aload_n (i := 0) rfl d_X12_init_789 0 rfl ?_
  refine aw_sipush (v := 600) d_X12_init_790 is_600 ?_
  refine aw_newa (t := 0) (atype := .int) 294 600 (by decide) rfl tw_51 (hn248 294 (by decide) (by decide)) (by decide) xs0 (by decide) (by decide) (by decide) (Nat.le_of_ble_eq_true rfl) (Nat.le_of_ble_eq_true rfl) d_X12_init_793 ?_
  refine aw_putrF (k0 := 123) kc_12 (ss_n hs247 (by decide)) (Nat.le_of_ble_eq_true rfl) tw_1865 d_X12_init_795 rfl rfl rfl rfl ?_
  have hs251 := ss_step (k := 294) (t := 0) (n := 600) (c' := 1) (s := 123) (r := some 294) hs247 (by decide)
  have hn252 := nn_step (k := 294) (t := 0) (n := 600) (c := 1) (s := 123) (r := some 294) hn248
  have tr253 := rr_step (k := 294) (t := 0) (n := 600) (c := 1) (s := 123) (r := some 294) tr249 (by decide) (by decide)
  have ts254 := ss_step (k := 294) (t := 0) (n := 600) (c' := 1) (s := 123) (r := some 294) ts250 (by decide)
  refine aw_aload_n (i := 0) rfl d_X12_init_798 0 rfl ?_
  refine aw_sipush (v := 600) d_X12_init_799 is_600 ?_
  refine aw_newa (t := 0) (atype := .int) 295 600 (by decide) rfl tw_51 (hn252 295 (by decide) (by decide)) (by decide) xs0 (by decide) (by decide) (by decide) (Nat.le_of_ble_eq_true rfl) (Nat.le_of_ble_eq_true rfl) d_X12_init_802 ?_
  refine aw_putrF (k0 := 124) kc_12 (ss_n hs251 (by decide)) (Nat.le_of_ble_eq_true rfl) tw_1866 d_X12_init_804 rfl rfl rfl rfl ?_
  have hs255 := ss_step (k := 295) (t := 0) (n := 600) (c' := 1) (s := 124) (r := some 295) hs251 (by decide)
  have hn256 := nn_step (k := 295) (t := 0) (n := 600) (c := 1) (s := 124) (r := some 295) hn252
  have tr257 := rr_step (k := 295) (t := 0) (n := 600) (c := 1) (s := 124) (r := some 295) tr253 (by decide) (by decide)
  have ts258 := ss_step (k := 295) (t := 0) (n := 600) (c' := 1) (s := 124) (r := some 295) ts254 (by decide)
  refine aw_aload_n (i := 0) rfl d_X12_init_807 0 rfl ?_
  refine aw_sipush (v := 600) d_X12_init_808 is_600 ?_
  refine aw_newa (t := 0) (atype := .int) 296 600 (by decide) rfl tw_51 (hn256 296 (by decide) (by decide)) (by decide) xs0 (by decide) (by decide) (by decide) (Nat.le_of_ble_eq_true rfl) (Nat.le_of_ble_eq_true rfl) d_X12_init_811 ?_
  refine aw_putrF (k0 := 125) kc_12 (ss_n hs255 (by decide)) (Nat.le_of_ble_eq_true rfl) tw_1867 d_X12_init_813 rfl rfl rfl rfl ?_
  have hs259 := ss_step (k := 296) (t := 0) (n := 600) (c' := 1) (s := 125) (r := some 296) hs255 (by decide)
  have hn260 := nn_step (k := 296) (t := 0) (n := 600) (c := 1) (s := 125) (r := some 296) hn256
  have tr261 := rr_step (k := 296) (t := 0) (n := 600) (c := 1) (s := 125) (r := some 296) tr257 (by decide) (by decide)
  have ts262 := ss_step (k := 296) (t := 0) (n := 600) (c' := 1) (s := 125) (r := some 296) ts258 (by decide)
  refine aw_aload_n (i := 0) rfl d_X12_init_816 0 rfl ?_
  refine aw_sipush (v := 600) d_X12_init_817 is_600 ?_
  refine aw_newa (t := 0) (atype := .int) 297 600 (by decide) rfl tw_51 (hn260 297 (by decide) (by decide)) (by decide) xs0 (by decide) (by decide) (by decide) (Nat.le_of_ble_eq_true rfl) (Nat.le_of_ble_eq_true rfl) d_X12_init_820 ?_
  refine aw_putrF (k0 := 126) kc_12 (ss_n hs259 (by decide)) (Nat.le_of_ble_eq_true rfl) tw_1868 d_X12_init_822 rfl rfl rfl rfl ?_
  have hs263 := ss_step (k := 297) (t := 0) (n := 600) (c' := 1) (s := 126) (r := some 297) hs259 (by decide)
  have hn264 := nn_step (k := 297) (t := 0) (n := 600) (c := 1) (s := 126) (r := some 297) hn260
  have tr265 := rr_step (k := 297) (t := 0) (n := 600) (c := 1) (s := 126) (r := some 297) tr261 (by decide) (by decide)
  have ts266 := ss_step (k := 297) (t := 0) (n := 600) (c' := 1) (s := 126) (r := some 297) ts262 (by decide)
  refine aw_aload_n (i := 0) rfl d_X12_init_825 0 rfl ?_
  refine aw_bipush (v := 48) d_X12_init_826 ib_48 ?_
  refine aw_newa (t := 0) (atype := .int) 298 48 (by decide) rfl tw_51 (hn264 298 (by decide) (by decide)) (by decide) xs0 (by decide) (by decide) (by decide) (Nat.le_of_ble_eq_true rfl) (Nat.le_of_ble_eq_true rfl) d_X12_init_828 ?_
  refine aw_putrF (k0 := 128) kc_12 (ss_n hs263 (by decide)) (Nat.le_of_ble_eq_true rfl) tw_1870 d_X12_init_830 rfl rfl rfl rfl ?_
  have hs267 := ss_step (k := 298) (t := 0) (n := 48) (c' := 1) (s := 128) (r := some 298) hs263 (by decide)
  have hn268 := nn_step (k := 298) (t := 0) (n := 48) (c := 1) (s := 128) (r := some 298) hn264
  have tr269 := rr_step (k := 298) (t := 0) (n := 48) (c := 1) (s := 128) (r := some 298) tr265 (by decide) (by decide)
  have ts270 := ss_step (k := 298) (t := 0) (n := 48) (c' := 1) (s := 128) (r := some 298) ts266 (by decide)
  refine aw_aload_n (i := 0) rfl d_X12_init_833 0 rfl ?_
  refine aw_bipush (v := 48) d_X12_init_834 ib_48 ?_
  refine aw_newa (t := 1) (atype := .boolean) 299 48 (by decide) rfl tw_252 (hn268 299 (by decide) (by decide)) (by decide) xs0 (by decide) (by decide) (by decide) (Nat.le_of_ble_eq_true rfl) (Nat.le_of_ble_eq_true rfl) d_X12_init_836 ?_
  refine aw_putrF (k0 := 129) kc_12 (ss_n hs267 (by decide)) (Nat.le_of_ble_eq_true rfl) tw_1871 d_X12_init_838 rfl rfl rfl rfl ?_
  have hs271 := ss_step (k := 299) (t := 1) (n := 48) (c' := 1) (s := 129) (r := some 299) hs267 (by decide)
  have hn272 := nn_step (k := 299) (t := 1) (n := 48) (c := 1) (s := 129) (r := some 299) hn268
  have tr273 := rr_step (k := 299) (t := 1) (n := 48) (c := 1) (s := 129) (r := some 299) tr269 (by decide) (by decide)
  have ts274 := ss_step (k := 299) (t := 1) (n := 48) (c' := 1) (s := 129) (r := some 299) ts270 (by decide)
  refine aw_aload_n (i := 0) rfl d_X12_init_841 0 rfl ?_
  refine aw_iconst (v := 3) d_X12_init_842 ic_3 ?_
  refine aw_puti (k0 := 130) kc_12 hs271 (Nat.le_of_ble_eq_true rfl) tw_1872 d_X12_init_843 rfl rfl nf_i ?_
  have hs275 := ss_im (a := 1) (k := 130) (x := 3) hs271
  have hn276 := nn_im (b := 1) (k := 130) (x := 3) hn272
  have tr277 := rr_im (a := 1) (k := 130) (x := 3) tr273
  have ts278 := ss_im (a := 1) (k := 130) (x := 3) ts274
  refine aw_iconst (v := 0) d_X12_init_846 ic_0 ?_
  refine aw_istore_n (i := 1) rfl [(0, .ref 1), (1, .int 0)] d_X12_init_847 (Nat.le_of_ble_eq_true rfl) rfl rfl ?_
  refine aw_iload_n (i := 1) rfl d_X12_init_848 1 rfl ?_
  refine aw_bipush (v := 8) d_X12_init_849 ib_8 ?_
  refine aw_icmp_ge (tgt := 867) d_X12_init_851 rfl (fun c => absurd c (by decide)) (fun _ => ?_)
  refine aw_aload_n (i := 0) rfl d_X12_init_854 0 rfl ?_
  refine aw_getr (k0 := 84) (b := 265) kc_12 hs275 (Nat.le_of_ble_eq_true rfl) tw_1826 d_X12_init_855 rfl tr277 ?_
  refine aw_iload_n (i := 1) rfl d_X12_init_858 1 rfl ?_
  refine aw_iconst (v := 1) d_X12_init_859 ic_1 ?_
  refine aw_iast (n := 8) ts278 (vin_c (by decide)) d_X12_init_860 ?_
  have hs279 := ss_im (a := 265) (k := ((0 : Int32).toNatClampNeg)) (x := 1) hs275
  have tr280 := rr_im (a := 265) (k := ((0 : Int32).toNatClampNeg)) (x := 1) tr277
  have ts281 := ss_im (a := 265) (k := ((0 : Int32).toNatClampNeg)) (x := 1) ts278
  refine aw_iinc (v := 1) [(0, .ref 1), (1, .int 1)] d_X12_init_861 1 rfl (by decide) (Nat.le_of_ble_eq_true rfl) rfl rfl ?_
  refine aw_goto (tgt := 848) d_X12_init_864 rfl ?_
  refine aw_iload_n (i := 1) rfl d_X12_init_848 1 rfl ?_
  refine aw_bipush (v := 8) d_X12_init_849 ib_8 ?_
  refine aw_icmp_ge (tgt := 867) d_X12_init_851 rfl (fun c => absurd c (by decide)) (fun _ => ?_)
  refine aw_aload_n (i := 0) rfl d_X12_init_854 0 rfl ?_
  refine aw_getr (k0 := 84) (b := 265) kc_12 hs279 (Nat.le_of_ble_eq_true rfl) tw_1826 d_X12_init_855 rfl tr280 ?_
  refine aw_iload_n (i := 1) rfl d_X12_init_858 1 rfl ?_
  refine aw_iconst (v := 1) d_X12_init_859 ic_1 ?_
  refine aw_iast (n := 8) ts281 (vin_c (by decide)) d_X12_init_860 ?_
  have hs282 := ss_im (a := 265) (k := ((1 : Int32).toNatClampNeg)) (x := 1) hs279
  have tr283 := rr_im (a := 265) (k := ((1 : Int32).toNatClampNeg)) (x := 1) tr280
  have ts284 := ss_im (a := 265) (k := ((1 : Int32).toNatClampNeg)) (x := 1) ts281
  refine aw_iinc (v := 2) [(0, .ref 1), (1, .int 2)] d_X12_init_861 1 rfl (by decide) (Nat.le_of_ble_eq_true rfl) rfl rfl ?_
  refine aw_goto (tgt := 848) d_X12_init_864 rfl ?_
  refine aw_iload_n (i := 1) rfl d_X12_init_848 1 rfl ?_
  refine aw_bipush (v := 8) d_X12_init_849 ib_8 ?_
  refine aw_icmp_ge (tgt := 867) d_X12_init_851 rfl (fun c => absurd c (by decide)) (fun _ => ?_)
  refine aw_aload_n (i := 0) rfl d_X12_init_854 0 rfl ?_
  refine aw_getr (k0 := 84) (b := 265) kc_12 hs282 (Nat.le_of_ble_eq_true rfl) tw_1826 d_X12_init_855 rfl tr283 ?_
  refine aw_iload_n (i := 1) rfl d_X12_init_858 1 rfl ?_
  refine aw_iconst (v := 1) d_X12_init_859 ic_1 ?_
  refine aw_iast (n := 8) ts284 (vin_c (by decide)) d_X12_init_860 ?_
  have hs285 := ss_im (a := 265) (k := ((2 : Int32).toNatClampNeg)) (x := 1) hs282
  have tr286 := rr_im (a := 265) (k := ((2 : Int32).toNatClampNeg)) (x := 1) tr283
  have ts287 := ss_im (a := 265) (k := ((2 : Int32).toNatClampNeg)) (x := 1) ts284
  refine aw_iinc (v := 3) [(0, .ref 1), (1, .int 3)] d_X12_init_861 1 rfl (by decide) (Nat.le_of_ble_eq_true rfl) rfl rfl ?_
  refine aw_goto (tgt := 848) d_X12_init_864 rfl ?_
  refine aw_iload_n (i := 1) rfl d_X12_init_848 1 rfl ?_
  refine aw_bipush (v := 8) d_X12_init_849 ib_8 ?_
  refine aw_icmp_ge (tgt := 867) d_X12_init_851 rfl (fun c => absurd c (by decide)) (fun _ => ?_)
  refine aw_aload_n (i := 0) rfl d_X12_init_854 0 rfl ?_
  refine aw_getr (k0 := 84) (b := 265) kc_12 hs285 (Nat.le_of_ble_eq_true rfl) tw_1826 d_X12_init_855 rfl tr286 ?_
  refine aw_iload_n (i := 1) rfl d_X12_init_858 1 rfl ?_
  refine aw_iconst (v := 1) d_X12_init_859 ic_1 ?_
  refine aw_iast (n := 8) ts287 (vin_c (by decide)) d_X12_init_860 ?_
  have hs288 := ss_im (a := 265) (k := ((3 : Int32).toNatClampNeg)) (x := 1) hs285
  have tr289 := rr_im (a := 265) (k := ((3 : Int32).toNatClampNeg)) (x := 1) tr286
  have ts290 := ss_im (a := 265) (k := ((3 : Int32).toNatClampNeg)) (x := 1) ts287
  refine aw_iinc (v := 4) [(0, .ref 1), (1, .int 4)] d_X12_init_861 1 rfl (by decide) (Nat.le_of_ble_eq_true rfl) rfl rfl ?_
  refine aw_goto (tgt := 848) d_X12_init_864 rfl ?_
  refine aw_iload_n (i := 1) rfl d_X12_init_848 1 rfl ?_
  refine aw_bipush (v := 8) d_X12_init_849 ib_8 ?_
  refine aw_icmp_ge (tgt := 867) d_X12_init_851 rfl (fun c => absurd c (by decide)) (fun _ => ?_)
  refine aw_aload_n (i := 0) rfl d_X12_init_854 0 rfl ?_
  refine aw_getr (k0 := 84) (b := 265) kc_12 hs288 (Nat.le_of_ble_eq_true rfl) tw_1826 d_X12_init_855 rfl tr289 ?_
  refine aw_iload_n (i := 1) rfl d_X12_init_858 1 rfl ?_
  refine aw_iconst (v := 1) d_X12_init_859 ic_1 ?_
  refine aw_iast (n := 8) ts290 (vin_c (by decide)) d_X12_init_860 ?_
  have hs291 := ss_im (a := 265) (k := ((4 : Int32).toNatClampNeg)) (x := 1) hs288
  have tr292 := rr_im (a := 265) (k := ((4 : Int32).toNatClampNeg)) (x := 1) tr289
  have ts293 := ss_im (a := 265) (k := ((4 : Int32).toNatClampNeg)) (x := 1) ts290
  refine aw_iinc (v := 5) [(0, .ref 1), (1, .int 5)] d_X12_init_861 1 rfl (by decide) (Nat.le_of_ble_eq_true rfl) rfl rfl ?_
  refine aw_goto (tgt := 848) d_X12_init_864 rfl ?_
  refine aw_iload_n (i := 1) rfl d_X12_init_848 1 rfl ?_
  refine aw_bipush (v := 8) d_X12_init_849 ib_8 ?_
  refine aw_icmp_ge (tgt := 867) d_X12_init_851 rfl (fun c => absurd c (by decide)) (fun _ => ?_)
  refine aw_aload_n (i := 0) rfl d_X12_init_854 0 rfl ?_
  refine aw_getr (k0 := 84) (b := 265) kc_12 hs291 (Nat.le_of_ble_eq_true rfl) tw_1826 d_X12_init_855 rfl tr292 ?_
  refine aw_iload_n (i := 1) rfl d_X12_init_858 1 rfl ?_
  refine aw_iconst (v := 1) d_X12_init_859 ic_1 ?_
  refine aw_iast (n := 8) ts293 (vin_c (by decide)) d_X12_init_860 ?_
  have hs294 := ss_im (a := 265) (k := ((5 : Int32).toNatClampNeg)) (x := 1) hs291
  have tr295 := rr_im (a := 265) (k := ((5 : Int32).toNatClampNeg)) (x := 1) tr292
  have ts296 := ss_im (a := 265) (k := ((5 : Int32).toNatClampNeg)) (x := 1) ts293
  refine aw_iinc (v := 6) [(0, .ref 1), (1, .int 6)] d_X12_init_861 1 rfl (by decide) (Nat.le_of_ble_eq_true rfl) rfl rfl ?_
  refine aw_goto (tgt := 848) d_X12_init_864 rfl ?_
  refine aw_iload_n (i := 1) rfl d_X12_init_848 1 rfl ?_
  refine aw_bipush (v := 8) d_X12_init_849 ib_8 ?_
  refine aw_icmp_ge (tgt := 867) d_X12_init_851 rfl (fun c => absurd c (by decide)) (fun _ => ?_)
  refine aw_aload_n (i := 0) rfl d_X12_init_854 0 rfl ?_
  refine aw_getr (k0 := 84) (b := 265) kc_12 hs294 (Nat.le_of_ble_eq_true rfl) tw_1826 d_X12_init_855 rfl tr295 ?_
  refine aw_iload_n (i := 1) rfl d_X12_init_858 1 rfl ?_
  refine aw_iconst (v := 1) d_X12_init_859 ic_1 ?_
  refine aw_iast (n := 8) ts296 (vin_c (by decide)) d_X12_init_860 ?_
  have hs297 := ss_im (a := 265) (k := ((6 : Int32).toNatClampNeg)) (x := 1) hs294
  have tr298 := rr_im (a := 265) (k := ((6 : Int32).toNatClampNeg)) (x := 1) tr295
  have ts299 := ss_im (a := 265) (k := ((6 : Int32).toNatClampNeg)) (x := 1) ts296
  refine aw_iinc (v := 7) [(0, .ref 1), (1, .int 7)] d_X12_init_861 1 rfl (by decide) (Nat.le_of_ble_eq_true rfl) rfl rfl ?_
  refine aw_goto (tgt := 848) d_X12_init_864 rfl ?_
  refine aw_iload_n (i := 1) rfl d_X12_init_848 1 rfl ?_
  refine aw_bipush (v := 8) d_X12_init_849 ib_8 ?_
  refine aw_icmp_ge (tgt := 867) d_X12_init_851 rfl (fun c => absurd c (by decide)) (fun _ => ?_)
  refine aw_aload_n (i := 0) rfl d_X12_init_854 0 rfl ?_
  refine aw_getr (k0 := 84) (b := 265) kc_12 hs297 (Nat.le_of_ble_eq_true rfl) tw_1826 d_X12_init_855 rfl tr298 ?_
  refine aw_iload_n (i := 1) rfl d_X12_init_858 1 rfl ?_
  refine aw_iconst (v := 1) d_X12_init_859 ic_1 ?_
  refine aw_iast (n := 8) ts299 (vin_c (by decide)) d_X12_init_860 ?_
  have hs300 := ss_im (a := 265) (k := ((7 : Int32).toNatClampNeg)) (x := 1) hs297
  have tr301 := rr_im (a := 265) (k := ((7 : Int32).toNatClampNeg)) (x := 1) tr298
  have ts302 := ss_im (a := 265) (k := ((7 : Int32).toNatClampNeg)) (x := 1) ts299
  refine aw_iinc (v := 8) [(0, .ref 1), (1, .int 8)] d_X12_init_861 1 rfl (by decide) (Nat.le_of_ble_eq_true rfl) rfl rfl ?_
  refine aw_goto (tgt := 848) d_X12_init_864 rfl ?_
  refine aw_iload_n (i := 1) rfl d_X12_init_848 1 rfl ?_
  refine aw_bipush (v := 8) d_X12_init_849 ib_8 ?_
  refine aw_icmp_ge (tgt := 867) d_X12_init_851 rfl (fun _ => ?_) (fun c => absurd c (by decide))
  exact aw_vret rfl d_X12_init_867 ⟨Nat.le_of_ble_eq_true rfl, Nat.le_of_ble_eq_true rfl⟩ ⟨rfl, rfl⟩
