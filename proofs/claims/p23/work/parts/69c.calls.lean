theorem lc_20 {L t N kc ks : Nat} {xs : Nat → Int32} {h : Hp_} (hL : 6 * t + 6 ≤ L) (lL : L ≤ 3072) (L0 : Li N h) (R : Rm t N kc ks) (O : ∀ N kc ks h, Li N h → Rm (t + 1) N kc ks → AW (ML L xs) kc ks 2406 (lv5 (6 * t)) [] h k1_) : AW (ML L xs) kc ks 1091 (lv5 (6 * t)) [] h k1_ := by
  have hk := R.ok (by omega)
  refine aw_aload_n (i := 1) rfl d_L_1091 1 rfl ?_
  refine aw_arg (j := 1) d_L_1092 d_L_1093 d_L_1095 d_L_1096 d_L_1097 ic_1 (oa_1 (by omega)) (by omega) lL ?_
  refine aw_arg (j := 2) d_L_1098 d_L_1099 d_L_1101 d_L_1102 d_L_1103 ic_2 (oa_2 (by omega)) (by omega) lL ?_
  refine aw_Kp (M' := m_X11_sighting (0 + 2) 0 0) (a := 0) [.int (xs (6 * t + 1)), .int (xs (6 * t + 2))] (hc_X11_sighting 0) ⟨⟨_, rfl, rtop_in _, fun _ y => (nomatch y)⟩, ⟨_, rfl, rtop_in _, fun _ y => (nomatch y)⟩, rfl, trivial⟩ L0.1 (fun _ y => (nomatch y)) d_L_1104 (cV_X11_sighting (0 + 2) 0 0) kc_11 (ws_0 L0.1.1) tw_1172 rfl ⟨⟨show 0 + 2 + 1 ≤ 2048 from by decide, show 8 + (3 + 11) + 100 * (0 + 2) ≤ 84000 from by decide⟩, rfl, rfl⟩ ⟨show kc ≤ 494584 by omega, show ks ≤ 7612352 by omega⟩ ⟨_, rfl⟩ d_L_1107 (fun h1 I1 F1 => ?_)
  have L1 := L0.fr I1 F1 (by decide +kernel)
  refine aw_aload_n (i := 2) rfl d_L_1108 2 rfl ?_
  refine aw_arg (j := 1) d_L_1109 d_L_1110 d_L_1112 d_L_1113 d_L_1114 ic_1 (oa_1 (by omega)) (by omega) lL ?_
  refine aw_arg (j := 2) d_L_1115 d_L_1116 d_L_1118 d_L_1119 d_L_1120 ic_2 (oa_2 (by omega)) (by omega) lL ?_
  refine aw_Kp (M' := m_X12_sighting (0 + 1) 0 0) (a := 1) [.int (xs (6 * t + 1)), .int (xs (6 * t + 2))] (hc_X12_sighting 0) ⟨⟨_, rfl, rtop_in _, fun _ y => (nomatch y)⟩, ⟨_, rfl, rtop_in _, fun _ y => (nomatch y)⟩, rfl, trivial⟩ L1.1 (fun _ y => (nomatch y)) d_L_1121 (cV_X12_sighting (0 + 1) 0 0) kc_12 (ws_1 L1.1.1) tw_2475 rfl ⟨⟨show 0 + 1 + 1 ≤ 2048 from by decide, show 8 + (3 + 11) + 100 * (0 + 1) ≤ 84000 from by decide⟩, rfl, rfl⟩ ⟨show kc ≤ 494584 by omega, show ks ≤ 7612352 by omega⟩ ⟨_, rfl⟩ d_L_1124 (fun h2 I2 F2 => ?_)
  have L2 := L1.fr I2 F2 (by decide +kernel)
  refine aw_goto (tgt := 2406) d_L_1125 rfl ?_
  exact O _ _ _ _ L2 R.up
theorem lc_21 {L t N kc ks : Nat} {xs : Nat → Int32} {h : Hp_} (hL : 6 * t + 6 ≤ L) (lL : L ≤ 3072) (L0 : Li N h) (R : Rm t N kc ks) (O : ∀ N kc ks h, Li N h → Rm (t + 1) N kc ks → AW (ML L xs) kc ks 2406 (lv5 (6 * t)) [] h k1_) : AW (ML L xs) kc ks 1128 (lv5 (6 * t)) [] h k1_ := by
  have hk := R.ok (by omega)
  refine aw_aload_n (i := 1) rfl d_L_1128 1 rfl ?_
  refine aw_arg (j := 1) d_L_1129 d_L_1130 d_L_1132 d_L_1133 d_L_1134 ic_1 (oa_1 (by omega)) (by omega) lL ?_
  refine aw_arg (j := 2) d_L_1135 d_L_1136 d_L_1138 d_L_1139 d_L_1140 ic_2 (oa_2 (by omega)) (by omega) lL ?_
  refine aw_Vi 0 [.int (xs (6 * t + 1)), .int (xs (6 * t + 2))] [] d_L_1141 (cV_X11_should (0 + 4) 0 0) kc_11 (ws_0 L0.1.1) tw_1181 rfl ⟨⟨show 0 + 4 + 1 ≤ 2048 from by decide, show 8 + (3 + 11) + 100 * (0 + 4) ≤ 84000 from by decide⟩, show kc + 0 ≤ 494584 by omega, show ks + 0 ≤ 7612352 by omega⟩ (Nat.le_of_ble_eq_true rfl) xsL (c_cmX 0 L0.1 L0 _ _) (fun r1 h1 k1 => ?_)
  refine aw_aload_n (i := 2) rfl d_L_1144 2 rfl ?_
  refine aw_arg (j := 1) d_L_1145 d_L_1146 d_L_1148 d_L_1149 d_L_1150 ic_1 (oa_1 (by omega)) (by omega) lL ?_
  refine aw_arg (j := 2) d_L_1151 d_L_1152 d_L_1154 d_L_1155 d_L_1156 ic_2 (oa_2 (by omega)) (by omega) lL ?_
  refine aw_Vi 1 [.int (xs (6 * t + 1)), .int (xs (6 * t + 2))] [.int r1] d_L_1157 (cV_X12_should (0 + 7) 0 0) kc_12 (ws_1 k1.1.1) tw_2479 rfl ⟨⟨show 0 + 7 + 1 ≤ 2048 from by decide, show 8 + (3 + 11) + 100 * (0 + 7) ≤ 84000 from by decide⟩, show kc + 0 ≤ 494584 by omega, show ks + 0 ≤ 7612352 by omega⟩ (Nat.le_of_ble_eq_true rfl) xsL (c_cmM 0 k1.1 L0 k1.2.1 _ _) (fun r2 h2 k2 => ?_)
  have L2 := L0.cm k1 k2
  refine aw_icmp_eq (tgt := 2406) d_L_1160 rfl (fun _ => ?_) (fun z => absurd L2.2 z)
  exact O _ _ _ _ L2.1 R.up
theorem lc_22 {L t N kc ks : Nat} {xs : Nat → Int32} {h : Hp_} (hL : 6 * t + 6 ≤ L) (lL : L ≤ 3072) (L0 : Li N h) (R : Rm t N kc ks) (O : ∀ N kc ks h, Li N h → Rm (t + 1) N kc ks → AW (ML L xs) kc ks 2406 (lv5 (6 * t)) [] h k1_) : AW (ML L xs) kc ks 1165 (lv5 (6 * t)) [] h k1_ := by
  have hk := R.ok (by omega)
  refine aw_aload_n (i := 1) rfl d_L_1165 1 rfl ?_
  refine aw_arg (j := 1) d_L_1166 d_L_1167 d_L_1169 d_L_1170 d_L_1171 ic_1 (oa_1 (by omega)) (by omega) lL ?_
  refine aw_Kp (M' := m_X11_heard (0 + 2) 0 0) (a := 0) [.int (xs (6 * t + 1))] (hc_X11_heard 0) ⟨⟨_, rfl, rtop_in _, fun _ y => (nomatch y)⟩, rfl, trivial⟩ L0.1 (fun _ y => (nomatch y)) d_L_1172 (cV_X11_heard (0 + 2) 0 0) kc_11 (ws_0 L0.1.1) tw_1195 rfl ⟨⟨show 0 + 2 + 1 ≤ 2048 from by decide, show 8 + (2 + 11) + 100 * (0 + 2) ≤ 84000 from by decide⟩, rfl, rfl⟩ ⟨show kc ≤ 494584 by omega, show ks ≤ 7612352 by omega⟩ ⟨_, rfl⟩ d_L_1175 (fun h1 I1 F1 => ?_)
  have L1 := L0.fr I1 F1 (by decide +kernel)
  refine aw_aload_n (i := 2) rfl d_L_1176 2 rfl ?_
  refine aw_arg (j := 1) d_L_1177 d_L_1178 d_L_1180 d_L_1181 d_L_1182 ic_1 (oa_1 (by omega)) (by omega) lL ?_
  refine aw_Kp (M' := m_X12_heard (0 + 2) 0 0) (a := 1) [.int (xs (6 * t + 1))] (hc_X12_heard 0) ⟨⟨_, rfl, rtop_in _, fun _ y => (nomatch y)⟩, rfl, trivial⟩ L1.1 (fun _ y => (nomatch y)) d_L_1183 (cV_X12_heard (0 + 2) 0 0) kc_12 (ws_1 L1.1.1) tw_2483 rfl ⟨⟨show 0 + 2 + 1 ≤ 2048 from by decide, show 8 + (4 + 11) + 100 * (0 + 2) ≤ 84000 from by decide⟩, rfl, rfl⟩ ⟨show kc ≤ 494584 by omega, show ks ≤ 7612352 by omega⟩ ⟨_, rfl⟩ d_L_1186 (fun h2 I2 F2 => ?_)
  have L2 := L1.fr I2 F2 (by decide +kernel)
  refine aw_goto (tgt := 2406) d_L_1187 rfl ?_
  exact O _ _ _ _ L2 R.up
theorem lc_23 {L t N kc ks : Nat} {xs : Nat → Int32} {h : Hp_} (hL : 6 * t + 6 ≤ L) (lL : L ≤ 3072) (L0 : Li N h) (R : Rm t N kc ks) (O : ∀ N kc ks h, Li N h → Rm (t + 1) N kc ks → AW (ML L xs) kc ks 2406 (lv5 (6 * t)) [] h k1_) : AW (ML L xs) kc ks 1190 (lv5 (6 * t)) [] h k1_ := by
  have hk := R.ok (by omega)
  refine aw_aload_n (i := 1) rfl d_L_1190 1 rfl ?_
  refine aw_arg (j := 1) d_L_1191 d_L_1192 d_L_1194 d_L_1195 d_L_1196 ic_1 (oa_1 (by omega)) (by omega) lL ?_
  refine aw_Vi 0 [.int (xs (6 * t + 1))] [] d_L_1197 (cV_X11_open (0 + 1) 0 0) kc_11 (ws_0 L0.1.1) tw_1203 rfl ⟨⟨show 0 + 1 + 1 ≤ 2048 from by decide, show 8 + (2 + 11) + 100 * (0 + 1) ≤ 84000 from by decide⟩, show kc + 0 ≤ 494584 by omega, show ks + 0 ≤ 7612352 by omega⟩ (Nat.le_of_ble_eq_true rfl) xsL (c_onX 0 L0.1 _) (fun r1 h1 k1 => ?_)
  refine aw_pop d_L_1200 rfl ?_
  refine aw_aload_n (i := 2) rfl d_L_1201 2 rfl ?_
  refine aw_arg (j := 1) d_L_1202 d_L_1203 d_L_1205 d_L_1206 d_L_1207 ic_1 (oa_1 (by omega)) (by omega) lL ?_
  refine aw_Vi 1 [.int (xs (6 * t + 1))] [] d_L_1208 (cV_X12_open (0 + 1) 0 0) kc_12 (ws_1 k1.1.1) tw_2487 rfl ⟨⟨show 0 + 1 + 1 ≤ 2048 from by decide, show 8 + (2 + 11) + 100 * (0 + 1) ≤ 84000 from by decide⟩, show kc + 0 ≤ 494584 by omega, show ks + 0 ≤ 7612352 by omega⟩ (Nat.le_of_ble_eq_true rfl) xsL (c_onM 0 k1.1 _) (fun r2 h2 k2 => ?_)
  refine aw_pop d_L_1211 rfl ?_
  have L2 := (L0.on k1 k2).1
  refine aw_goto (tgt := 2406) d_L_1212 rfl ?_
  exact O _ _ _ _ L2 R.up
theorem lc_24 {L t N kc ks : Nat} {xs : Nat → Int32} {h : Hp_} (hL : 6 * t + 6 ≤ L) (lL : L ≤ 3072) (L0 : Li N h) (R : Rm t N kc ks) (O : ∀ N kc ks h, Li N h → Rm (t + 1) N kc ks → AW (ML L xs) kc ks 2406 (lv5 (6 * t)) [] h k1_) : AW (ML L xs) kc ks 1215 (lv5 (6 * t)) [] h k1_ := by
  have hk := R.ok (by omega)
  refine aw_aload_n (i := 1) rfl d_L_1215 1 rfl ?_
  refine aw_arg (j := 1) d_L_1216 d_L_1217 d_L_1219 d_L_1220 d_L_1221 ic_1 (oa_1 (by omega)) (by omega) lL ?_
  refine aw_arg (j := 2) d_L_1222 d_L_1223 d_L_1225 d_L_1226 d_L_1227 ic_2 (oa_2 (by omega)) (by omega) lL ?_
  refine aw_Kp (M' := m_X11_need (0 + 1) 0 0) (a := 0) [.int (xs (6 * t + 1)), .int (xs (6 * t + 2))] (hc_X11_need 0) ⟨⟨_, rfl, rtop_in _, fun _ y => (nomatch y)⟩, ⟨_, rfl, rtop_in _, fun _ y => (nomatch y)⟩, rfl, trivial⟩ L0.1 (fun _ y => (nomatch y)) d_L_1228 (cV_X11_need (0 + 1) 0 0) kc_11 (ws_0 L0.1.1) tw_1207 rfl ⟨⟨show 0 + 1 + 1 ≤ 2048 from by decide, show 8 + (3 + 11) + 100 * (0 + 1) ≤ 84000 from by decide⟩, rfl, rfl⟩ ⟨show kc ≤ 494584 by omega, show ks ≤ 7612352 by omega⟩ ⟨_, rfl⟩ d_L_1231 (fun h1 I1 F1 => ?_)
  have L1 := L0.fr I1 F1 (by decide +kernel)
  refine aw_aload_n (i := 2) rfl d_L_1232 2 rfl ?_
  refine aw_arg (j := 1) d_L_1233 d_L_1234 d_L_1236 d_L_1237 d_L_1238 ic_1 (oa_1 (by omega)) (by omega) lL ?_
  refine aw_arg (j := 2) d_L_1239 d_L_1240 d_L_1242 d_L_1243 d_L_1244 ic_2 (oa_2 (by omega)) (by omega) lL ?_
  refine aw_Kp (M' := m_X12_need (0 + 1) 0 0) (a := 1) [.int (xs (6 * t + 1)), .int (xs (6 * t + 2))] (hc_X12_need 0) ⟨⟨_, rfl, rtop_in _, fun _ y => (nomatch y)⟩, ⟨_, rfl, rtop_in _, fun _ y => (nomatch y)⟩, rfl, trivial⟩ L1.1 (fun _ y => (nomatch y)) d_L_1245 (cV_X12_need (0 + 1) 0 0) kc_12 (ws_1 L1.1.1) tw_2491 rfl ⟨⟨show 0 + 1 + 1 ≤ 2048 from by decide, show 8 + (3 + 11) + 100 * (0 + 1) ≤ 84000 from by decide⟩, rfl, rfl⟩ ⟨show kc ≤ 494584 by omega, show ks ≤ 7612352 by omega⟩ ⟨_, rfl⟩ d_L_1248 (fun h2 I2 F2 => ?_)
  have L2 := L1.fr I2 F2 (by decide +kernel)
  refine aw_goto (tgt := 2406) d_L_1249 rfl ?_
  exact O _ _ _ _ L2 R.up
theorem lc_25 {L t N kc ks : Nat} {xs : Nat → Int32} {h : Hp_} (hL : 6 * t + 6 ≤ L) (lL : L ≤ 3072) (L0 : Li N h) (R : Rm t N kc ks) (O : ∀ N kc ks h, Li N h → Rm (t + 1) N kc ks → AW (ML L xs) kc ks 2406 (lv5 (6 * t)) [] h k1_) : AW (ML L xs) kc ks 1252 (lv5 (6 * t)) [] h k1_ := by
  have hk := R.ok (by omega)
  refine aw_aload_n (i := 1) rfl d_L_1252 1 rfl ?_
  refine aw_arg (j := 1) d_L_1253 d_L_1254 d_L_1256 d_L_1257 d_L_1258 ic_1 (oa_1 (by omega)) (by omega) lL ?_
  refine aw_arg (j := 2) d_L_1259 d_L_1260 d_L_1262 d_L_1263 d_L_1264 ic_2 (oa_2 (by omega)) (by omega) lL ?_
  refine aw_Kp (M' := m_X11_want (0 + 1) 0 0) (a := 0) [.int (xs (6 * t + 1)), .int (xs (6 * t + 2))] (hc_X11_want 0) ⟨⟨_, rfl, rtop_in _, fun _ y => (nomatch y)⟩, ⟨_, rfl, rtop_in _, fun _ y => (nomatch y)⟩, rfl, trivial⟩ L0.1 (fun _ y => (nomatch y)) d_L_1265 (cV_X11_want (0 + 1) 0 0) kc_11 (ws_0 L0.1.1) tw_1211 rfl ⟨⟨show 0 + 1 + 1 ≤ 2048 from by decide, show 8 + (3 + 11) + 100 * (0 + 1) ≤ 84000 from by decide⟩, rfl, rfl⟩ ⟨show kc ≤ 494584 by omega, show ks ≤ 7612352 by omega⟩ ⟨_, rfl⟩ d_L_1268 (fun h1 I1 F1 => ?_)
  have L1 := L0.fr I1 F1 (by decide +kernel)
  refine aw_aload_n (i := 2) rfl d_L_1269 2 rfl ?_
  refine aw_arg (j := 1) d_L_1270 d_L_1271 d_L_1273 d_L_1274 d_L_1275 ic_1 (oa_1 (by omega)) (by omega) lL ?_
  refine aw_arg (j := 2) d_L_1276 d_L_1277 d_L_1279 d_L_1280 d_L_1281 ic_2 (oa_2 (by omega)) (by omega) lL ?_
  refine aw_Kp (M' := m_X12_want (0 + 1) 0 0) (a := 1) [.int (xs (6 * t + 1)), .int (xs (6 * t + 2))] (hc_X12_want 0) ⟨⟨_, rfl, rtop_in _, fun _ y => (nomatch y)⟩, ⟨_, rfl, rtop_in _, fun _ y => (nomatch y)⟩, rfl, trivial⟩ L1.1 (fun _ y => (nomatch y)) d_L_1282 (cV_X12_want (0 + 1) 0 0) kc_12 (ws_1 L1.1.1) tw_2495 rfl ⟨⟨show 0 + 1 + 1 ≤ 2048 from by decide, show 8 + (3 + 11) + 100 * (0 + 1) ≤ 84000 from by decide⟩, rfl, rfl⟩ ⟨show kc ≤ 494584 by omega, show ks ≤ 7612352 by omega⟩ ⟨_, rfl⟩ d_L_1285 (fun h2 I2 F2 => ?_)
  have L2 := L1.fr I2 F2 (by decide +kernel)
  refine aw_goto (tgt := 2406) d_L_1286 rfl ?_
  exact O _ _ _ _ L2 R.up
theorem lc_26 {L t N kc ks : Nat} {xs : Nat → Int32} {h : Hp_} (hL : 6 * t + 6 ≤ L) (lL : L ≤ 3072) (L0 : Li N h) (R : Rm t N kc ks) (O : ∀ N kc ks h, Li N h → Rm (t + 1) N kc ks → AW (ML L xs) kc ks 2406 (lv5 (6 * t)) [] h k1_) : AW (ML L xs) kc ks 1289 (lv5 (6 * t)) [] h k1_ := by
  have hk := R.ok (by omega)
  refine aw_aload_n (i := 1) rfl d_L_1289 1 rfl ?_
  refine aw_arg (j := 1) d_L_1290 d_L_1291 d_L_1293 d_L_1294 d_L_1295 ic_1 (oa_1 (by omega)) (by omega) lL ?_
  refine aw_arg (j := 2) d_L_1296 d_L_1297 d_L_1299 d_L_1300 d_L_1301 ic_2 (oa_2 (by omega)) (by omega) lL ?_
  refine aw_arg (j := 3) d_L_1302 d_L_1303 d_L_1305 d_L_1306 d_L_1307 ic_3 (oa_3 (by omega)) (by omega) lL ?_
  refine aw_arg (j := 4) d_L_1308 d_L_1309 d_L_1311 d_L_1312 d_L_1313 ic_4 (oa_4 (by omega)) (by omega) lL ?_
  refine aw_if_eq (tgt := 1321) d_L_1314 rfl (fun y1314 => ?_) (fun y1314 => ?_)
  · refine aw_iconst (v := 0) d_L_1321 ic_0 ?_
    refine aw_Kp (M' := m_X11_state (0 + 2) 0 0) (a := 0) [.int (xs (6 * t + 1)), .int (xs (6 * t + 2)), .int (xs (6 * t + 3)), .int 0] (hc_X11_state 0) ⟨⟨_, rfl, ⟨by decide, by decide⟩, fun _ y => (nomatch y)⟩, ⟨_, rfl, rtop_in _, fun _ y => (nomatch y)⟩, ⟨_, rfl, rtop_in _, fun _ y => (nomatch y)⟩, ⟨_, rfl, rtop_in _, fun _ y => (nomatch y)⟩, rfl, trivial⟩ L0.1 (fun _ y => (nomatch y)) d_L_1322 (cV_X11_state (0 + 2) 0 0) kc_11 (ws_0 L0.1.1) tw_1215 rfl ⟨⟨show 0 + 2 + 1 ≤ 2048 from by decide, show 8 + (5 + 11) + 100 * (0 + 2) ≤ 84000 from by decide⟩, rfl, rfl⟩ ⟨show kc ≤ 494584 by omega, show ks ≤ 7612352 by omega⟩ ⟨_, rfl⟩ d_L_1325 (fun h1 I1 F1 => ?_)
    have L1 := L0.fr I1 F1 (by decide +kernel)
    refine aw_aload_n (i := 2) rfl d_L_1326 2 rfl ?_
    refine aw_arg (j := 1) d_L_1327 d_L_1328 d_L_1330 d_L_1331 d_L_1332 ic_1 (oa_1 (by omega)) (by omega) lL ?_
    refine aw_arg (j := 2) d_L_1333 d_L_1334 d_L_1336 d_L_1337 d_L_1338 ic_2 (oa_2 (by omega)) (by omega) lL ?_
    refine aw_arg (j := 3) d_L_1339 d_L_1340 d_L_1342 d_L_1343 d_L_1344 ic_3 (oa_3 (by omega)) (by omega) lL ?_
    refine aw_arg (j := 4) d_L_1345 d_L_1346 d_L_1348 d_L_1349 d_L_1350 ic_4 (oa_4 (by omega)) (by omega) lL ?_
    refine aw_if_eq (tgt := 1358) d_L_1351 rfl (fun _ => ?_) (fun z => absurd y1314 z)
    refine aw_iconst (v := 0) d_L_1358 ic_0 ?_
    refine aw_Kp (M' := m_X12_state (0 + 2) 0 0) (a := 1) [.int (xs (6 * t + 1)), .int (xs (6 * t + 2)), .int (xs (6 * t + 3)), .int 0] (hc_X12_state 0) ⟨⟨_, rfl, ⟨by decide, by decide⟩, fun _ y => (nomatch y)⟩, ⟨_, rfl, rtop_in _, fun _ y => (nomatch y)⟩, ⟨_, rfl, rtop_in _, fun _ y => (nomatch y)⟩, ⟨_, rfl, rtop_in _, fun _ y => (nomatch y)⟩, rfl, trivial⟩ L1.1 (fun _ y => (nomatch y)) d_L_1359 (cV_X12_state (0 + 2) 0 0) kc_12 (ws_1 L1.1.1) tw_2499 rfl ⟨⟨show 0 + 2 + 1 ≤ 2048 from by decide, show 8 + (5 + 11) + 100 * (0 + 2) ≤ 84000 from by decide⟩, rfl, rfl⟩ ⟨show kc ≤ 494584 by omega, show ks ≤ 7612352 by omega⟩ ⟨_, rfl⟩ d_L_1362 (fun h2 I2 F2 => ?_)
    have L2 := L1.fr I2 F2 (by decide +kernel)
    refine aw_goto (tgt := 2406) d_L_1363 rfl ?_
    exact O _ _ _ _ L2 R.up
  · refine aw_iconst (v := 1) d_L_1317 ic_1 ?_
    refine aw_goto (tgt := 1322) d_L_1318 rfl ?_
    refine aw_Kp (M' := m_X11_state (0 + 2) 0 0) (a := 0) [.int (xs (6 * t + 1)), .int (xs (6 * t + 2)), .int (xs (6 * t + 3)), .int 1] (hc_X11_state 0) ⟨⟨_, rfl, ⟨by decide, by decide⟩, fun _ y => (nomatch y)⟩, ⟨_, rfl, rtop_in _, fun _ y => (nomatch y)⟩, ⟨_, rfl, rtop_in _, fun _ y => (nomatch y)⟩, ⟨_, rfl, rtop_in _, fun _ y => (nomatch y)⟩, rfl, trivial⟩ L0.1 (fun _ y => (nomatch y)) d_L_1322 (cV_X11_state (0 + 2) 0 0) kc_11 (ws_0 L0.1.1) tw_1215 rfl ⟨⟨show 0 + 2 + 1 ≤ 2048 from by decide, show 8 + (5 + 11) + 100 * (0 + 2) ≤ 84000 from by decide⟩, rfl, rfl⟩ ⟨show kc ≤ 494584 by omega, show ks ≤ 7612352 by omega⟩ ⟨_, rfl⟩ d_L_1325 (fun h1 I1 F1 => ?_)
    have L1 := L0.fr I1 F1 (by decide +kernel)
    refine aw_aload_n (i := 2) rfl d_L_1326 2 rfl ?_
    refine aw_arg (j := 1) d_L_1327 d_L_1328 d_L_1330 d_L_1331 d_L_1332 ic_1 (oa_1 (by omega)) (by omega) lL ?_
    refine aw_arg (j := 2) d_L_1333 d_L_1334 d_L_1336 d_L_1337 d_L_1338 ic_2 (oa_2 (by omega)) (by omega) lL ?_
    refine aw_arg (j := 3) d_L_1339 d_L_1340 d_L_1342 d_L_1343 d_L_1344 ic_3 (oa_3 (by omega)) (by omega) lL ?_
    refine aw_arg (j := 4) d_L_1345 d_L_1346 d_L_1348 d_L_1349 d_L_1350 ic_4 (oa_4 (by omega)) (by omega) lL ?_
    refine aw_if_eq (tgt := 1358) d_L_1351 rfl (fun z => absurd z y1314) (fun _ => ?_)
    refine aw_iconst (v := 1) d_L_1354 ic_1 ?_
    refine aw_goto (tgt := 1359) d_L_1355 rfl ?_
    refine aw_Kp (M' := m_X12_state (0 + 2) 0 0) (a := 1) [.int (xs (6 * t + 1)), .int (xs (6 * t + 2)), .int (xs (6 * t + 3)), .int 1] (hc_X12_state 0) ⟨⟨_, rfl, ⟨by decide, by decide⟩, fun _ y => (nomatch y)⟩, ⟨_, rfl, rtop_in _, fun _ y => (nomatch y)⟩, ⟨_, rfl, rtop_in _, fun _ y => (nomatch y)⟩, ⟨_, rfl, rtop_in _, fun _ y => (nomatch y)⟩, rfl, trivial⟩ L1.1 (fun _ y => (nomatch y)) d_L_1359 (cV_X12_state (0 + 2) 0 0) kc_12 (ws_1 L1.1.1) tw_2499 rfl ⟨⟨show 0 + 2 + 1 ≤ 2048 from by decide, show 8 + (5 + 11) + 100 * (0 + 2) ≤ 84000 from by decide⟩, rfl, rfl⟩ ⟨show kc ≤ 494584 by omega, show ks ≤ 7612352 by omega⟩ ⟨_, rfl⟩ d_L_1362 (fun h2 I2 F2 => ?_)
    have L2 := L1.fr I2 F2 (by decide +kernel)
    refine aw_goto (tgt := 2406) d_L_1363 rfl ?_
    exact O _ _ _ _ L2 R.up
theorem lc_27 {L t N kc ks : Nat} {xs : Nat → Int32} {h : Hp_} (hL : 6 * t + 6 ≤ L) (lL : L ≤ 3072) (L0 : Li N h) (R : Rm t N kc ks) (O : ∀ N kc ks h, Li N h → Rm (t + 1) N kc ks → AW (ML L xs) kc ks 2406 (lv5 (6 * t)) [] h k1_) : AW (ML L xs) kc ks 1366 (lv5 (6 * t)) [] h k1_ := by
  have hk := R.ok (by omega)
  refine aw_aload_n (i := 1) rfl d_L_1366 1 rfl ?_
  refine aw_arg (j := 1) d_L_1367 d_L_1368 d_L_1370 d_L_1371 d_L_1372 ic_1 (oa_1 (by omega)) (by omega) lL ?_
  refine aw_Kp (M' := m_X11_withdraw (0 + 7) 0 0) (a := 0) [.int (xs (6 * t + 1))] (hc_X11_withdraw 0) ⟨⟨_, rfl, rtop_in _, fun _ y => (nomatch y)⟩, rfl, trivial⟩ L0.1 (fun _ y => (nomatch y)) d_L_1373 (cV_X11_withdraw (0 + 7) 0 0) kc_11 (ws_0 L0.1.1) tw_1228 rfl ⟨⟨show 0 + 7 + 1 ≤ 2048 from by decide, show 8 + (2 + 11) + 100 * (0 + 7) ≤ 84000 from by decide⟩, rfl, rfl⟩ ⟨show kc ≤ 494584 by omega, show ks ≤ 7612352 by omega⟩ ⟨_, rfl⟩ d_L_1376 (fun h1 I1 F1 => ?_)
  have L1 := L0.fr I1 F1 (by decide +kernel)
  refine aw_aload_n (i := 2) rfl d_L_1377 2 rfl ?_
  refine aw_arg (j := 1) d_L_1378 d_L_1379 d_L_1381 d_L_1382 d_L_1383 ic_1 (oa_1 (by omega)) (by omega) lL ?_
  refine aw_Kp (M' := m_X12_withdraw (0 + 4) 0 0) (a := 1) [.int (xs (6 * t + 1))] (hc_X12_withdraw 0) ⟨⟨_, rfl, rtop_in _, fun _ y => (nomatch y)⟩, rfl, trivial⟩ L1.1 (fun _ y => (nomatch y)) d_L_1384 (cV_X12_withdraw (0 + 4) 0 0) kc_12 (ws_1 L1.1.1) tw_2540 rfl ⟨⟨show 0 + 4 + 1 ≤ 2048 from by decide, show 8 + (4 + 11) + 100 * (0 + 4) ≤ 84000 from by decide⟩, rfl, rfl⟩ ⟨show kc ≤ 494584 by omega, show ks ≤ 7612352 by omega⟩ ⟨_, rfl⟩ d_L_1387 (fun h2 I2 F2 => ?_)
  have L2 := L1.fr I2 F2 (by decide +kernel)
  refine aw_goto (tgt := 2406) d_L_1388 rfl ?_
  exact O _ _ _ _ L2 R.up
theorem lc_28 {L t N kc ks : Nat} {xs : Nat → Int32} {h : Hp_} (hL : 6 * t + 6 ≤ L) (lL : L ≤ 3072) (L0 : Li N h) (R : Rm t N kc ks) (O : ∀ N kc ks h, Li N h → Rm (t + 1) N kc ks → AW (ML L xs) kc ks 2406 (lv5 (6 * t)) [] h k1_) : AW (ML L xs) kc ks 1391 (lv5 (6 * t)) [] h k1_ := by
  have hk := R.ok (by omega)
  refine aw_aload_n (i := 1) rfl d_L_1391 1 rfl ?_
  refine aw_arg (j := 1) d_L_1392 d_L_1393 d_L_1395 d_L_1396 d_L_1397 ic_1 (oa_1 (by omega)) (by omega) lL ?_
  refine aw_arg (j := 2) d_L_1398 d_L_1399 d_L_1401 d_L_1402 d_L_1403 ic_2 (oa_2 (by omega)) (by omega) lL ?_
  refine aw_arg (j := 3) d_L_1404 d_L_1405 d_L_1407 d_L_1408 d_L_1409 ic_3 (oa_3 (by omega)) (by omega) lL ?_
  refine aw_Kp (M' := m_X11_fact (0 + 2) 0 0) (a := 0) [.int (xs (6 * t + 1)), .int (xs (6 * t + 2)), .int (xs (6 * t + 3))] (hc_X11_fact 0) ⟨⟨_, rfl, rtop_in _, fun _ y => (nomatch y)⟩, ⟨_, rfl, rtop_in _, fun _ y => (nomatch y)⟩, ⟨_, rfl, rtop_in _, fun _ y => (nomatch y)⟩, rfl, trivial⟩ L0.1 (fun _ y => (nomatch y)) d_L_1410 (cV_X11_fact (0 + 2) 0 0) kc_11 (ws_0 L0.1.1) tw_1275 rfl ⟨⟨show 0 + 2 + 1 ≤ 2048 from by decide, show 8 + (4 + 11) + 100 * (0 + 2) ≤ 84000 from by decide⟩, rfl, rfl⟩ ⟨show kc ≤ 494584 by omega, show ks ≤ 7612352 by omega⟩ ⟨_, rfl⟩ d_L_1413 (fun h1 I1 F1 => ?_)
  have L1 := L0.fr I1 F1 (by decide +kernel)
  refine aw_aload_n (i := 2) rfl d_L_1414 2 rfl ?_
  refine aw_arg (j := 1) d_L_1415 d_L_1416 d_L_1418 d_L_1419 d_L_1420 ic_1 (oa_1 (by omega)) (by omega) lL ?_
  refine aw_arg (j := 2) d_L_1421 d_L_1422 d_L_1424 d_L_1425 d_L_1426 ic_2 (oa_2 (by omega)) (by omega) lL ?_
  refine aw_arg (j := 3) d_L_1427 d_L_1428 d_L_1430 d_L_1431 d_L_1432 ic_3 (oa_3 (by omega)) (by omega) lL ?_
  refine aw_Kp (M' := m_X12_fact (0 + 3) 0 0) (a := 1) [.int (xs (6 * t + 1)), .int (xs (6 * t + 2)), .int (xs (6 * t + 3))] (hc_X12_fact 0) ⟨⟨_, rfl, rtop_in _, fun _ y => (nomatch y)⟩, ⟨_, rfl, rtop_in _, fun _ y => (nomatch y)⟩, ⟨_, rfl, rtop_in _, fun _ y => (nomatch y)⟩, rfl, trivial⟩ L1.1 (fun _ y => (nomatch y)) d_L_1433 (cV_X12_fact (0 + 3) 0 0) kc_12 (ws_1 L1.1.1) tw_2507 rfl ⟨⟨show 0 + 3 + 1 ≤ 2048 from by decide, show 8 + (4 + 11) + 100 * (0 + 3) ≤ 84000 from by decide⟩, rfl, rfl⟩ ⟨show kc ≤ 494584 by omega, show ks ≤ 7612352 by omega⟩ ⟨_, rfl⟩ d_L_1436 (fun h2 I2 F2 => ?_)
  have L2 := L1.fr I2 F2 (by decide +kernel)
  refine aw_goto (tgt := 2406) d_L_1437 rfl ?_
  exact O _ _ _ _ L2 R.up
theorem lc_29 {L t N kc ks : Nat} {xs : Nat → Int32} {h : Hp_} (hL : 6 * t + 6 ≤ L) (lL : L ≤ 3072) (L0 : Li N h) (R : Rm t N kc ks) (O : ∀ N kc ks h, Li N h → Rm (t + 1) N kc ks → AW (ML L xs) kc ks 2406 (lv5 (6 * t)) [] h k1_) : AW (ML L xs) kc ks 1440 (lv5 (6 * t)) [] h k1_ := by
  have hk := R.ok (by omega)
  refine aw_aload_n (i := 1) rfl d_L_1440 1 rfl ?_
  refine aw_arg (j := 1) d_L_1441 d_L_1442 d_L_1444 d_L_1445 d_L_1446 ic_1 (oa_1 (by omega)) (by omega) lL ?_
  refine aw_arg (j := 2) d_L_1447 d_L_1448 d_L_1450 d_L_1451 d_L_1452 ic_2 (oa_2 (by omega)) (by omega) lL ?_
  refine aw_arg (j := 3) d_L_1453 d_L_1454 d_L_1456 d_L_1457 d_L_1458 ic_3 (oa_3 (by omega)) (by omega) lL ?_
  refine aw_Kp (M' := m_X11_cased (0 + 6) 0 0) (a := 0) [.int (xs (6 * t + 1)), .int (xs (6 * t + 2)), .int (xs (6 * t + 3))] (hc_X11_cased 0) ⟨⟨_, rfl, rtop_in _, fun _ y => (nomatch y)⟩, ⟨_, rfl, rtop_in _, fun _ y => (nomatch y)⟩, ⟨_, rfl, rtop_in _, fun _ y => (nomatch y)⟩, rfl, trivial⟩ L0.1 (fun _ y => (nomatch y)) d_L_1459 (cV_X11_cased (0 + 6) 0 0) kc_11 (ws_0 L0.1.1) tw_1285 rfl ⟨⟨show 0 + 6 + 1 ≤ 2048 from by decide, show 8 + (4 + 11) + 100 * (0 + 6) ≤ 84000 from by decide⟩, rfl, rfl⟩ ⟨show kc ≤ 494584 by omega, show ks ≤ 7612352 by omega⟩ ⟨_, rfl⟩ d_L_1462 (fun h1 I1 F1 => ?_)
  have L1 := L0.fr I1 F1 (by decide +kernel)
  refine aw_aload_n (i := 2) rfl d_L_1463 2 rfl ?_
  refine aw_arg (j := 1) d_L_1464 d_L_1465 d_L_1467 d_L_1468 d_L_1469 ic_1 (oa_1 (by omega)) (by omega) lL ?_
  refine aw_arg (j := 2) d_L_1470 d_L_1471 d_L_1473 d_L_1474 d_L_1475 ic_2 (oa_2 (by omega)) (by omega) lL ?_
  refine aw_arg (j := 3) d_L_1476 d_L_1477 d_L_1479 d_L_1480 d_L_1481 ic_3 (oa_3 (by omega)) (by omega) lL ?_
  refine aw_Kp (M' := m_X12_cased (0 + 4) 0 0) (a := 1) [.int (xs (6 * t + 1)), .int (xs (6 * t + 2)), .int (xs (6 * t + 3))] (hc_X12_cased 0) ⟨⟨_, rfl, rtop_in _, fun _ y => (nomatch y)⟩, ⟨_, rfl, rtop_in _, fun _ y => (nomatch y)⟩, ⟨_, rfl, rtop_in _, fun _ y => (nomatch y)⟩, rfl, trivial⟩ L1.1 (fun _ y => (nomatch y)) d_L_1482 (cV_X12_cased (0 + 4) 0 0) kc_12 (ws_1 L1.1.1) tw_2519 rfl ⟨⟨show 0 + 4 + 1 ≤ 2048 from by decide, show 8 + (4 + 11) + 100 * (0 + 4) ≤ 84000 from by decide⟩, rfl, rfl⟩ ⟨show kc ≤ 494584 by omega, show ks ≤ 7612352 by omega⟩ ⟨_, rfl⟩ d_L_1485 (fun h2 I2 F2 => ?_)
  have L2 := L1.fr I2 F2 (by decide +kernel)
  refine aw_goto (tgt := 2406) d_L_1486 rfl ?_
  exact O _ _ _ _ L2 R.up
theorem lc_30 {L t N kc ks : Nat} {xs : Nat → Int32} {h : Hp_} (hL : 6 * t + 6 ≤ L) (lL : L ≤ 3072) (L0 : Li N h) (R : Rm t N kc ks) (O : ∀ N kc ks h, Li N h → Rm (t + 1) N kc ks → AW (ML L xs) kc ks 2406 (lv5 (6 * t)) [] h k1_) : AW (ML L xs) kc ks 1489 (lv5 (6 * t)) [] h k1_ := by
  have hk := R.ok (by omega)
  refine aw_aload_n (i := 1) rfl d_L_1489 1 rfl ?_
  refine aw_arg (j := 1) d_L_1490 d_L_1491 d_L_1493 d_L_1494 d_L_1495 ic_1 (oa_1 (by omega)) (by omega) lL ?_
  refine aw_arg (j := 2) d_L_1496 d_L_1497 d_L_1499 d_L_1500 d_L_1501 ic_2 (oa_2 (by omega)) (by omega) lL ?_
  refine aw_arg (j := 3) d_L_1502 d_L_1503 d_L_1505 d_L_1506 d_L_1507 ic_3 (oa_3 (by omega)) (by omega) lL ?_
  refine aw_Kp (M' := m_X11_story (0 + 2) 0 0) (a := 0) [.int (xs (6 * t + 1)), .int (xs (6 * t + 2)), .int (xs (6 * t + 3))] (hc_X11_story 0) ⟨⟨_, rfl, rtop_in _, fun _ y => (nomatch y)⟩, ⟨_, rfl, rtop_in _, fun _ y => (nomatch y)⟩, ⟨_, rfl, rtop_in _, fun _ y => (nomatch y)⟩, rfl, trivial⟩ L0.1 (fun _ y => (nomatch y)) d_L_1508 (cV_X11_story (0 + 2) 0 0) kc_11 (ws_0 L0.1.1) tw_1297 rfl ⟨⟨show 0 + 2 + 1 ≤ 2048 from by decide, show 8 + (4 + 11) + 100 * (0 + 2) ≤ 84000 from by decide⟩, rfl, rfl⟩ ⟨show kc ≤ 494584 by omega, show ks ≤ 7612352 by omega⟩ ⟨_, rfl⟩ d_L_1511 (fun h1 I1 F1 => ?_)
  have L1 := L0.fr I1 F1 (by decide +kernel)
  refine aw_aload_n (i := 2) rfl d_L_1512 2 rfl ?_
  refine aw_arg (j := 1) d_L_1513 d_L_1514 d_L_1516 d_L_1517 d_L_1518 ic_1 (oa_1 (by omega)) (by omega) lL ?_
  refine aw_arg (j := 2) d_L_1519 d_L_1520 d_L_1522 d_L_1523 d_L_1524 ic_2 (oa_2 (by omega)) (by omega) lL ?_
  refine aw_arg (j := 3) d_L_1525 d_L_1526 d_L_1528 d_L_1529 d_L_1530 ic_3 (oa_3 (by omega)) (by omega) lL ?_
  refine aw_Kp (M' := m_X12_story (0 + 2) 0 0) (a := 1) [.int (xs (6 * t + 1)), .int (xs (6 * t + 2)), .int (xs (6 * t + 3))] (hc_X12_story 0) ⟨⟨_, rfl, rtop_in _, fun _ y => (nomatch y)⟩, ⟨_, rfl, rtop_in _, fun _ y => (nomatch y)⟩, ⟨_, rfl, rtop_in _, fun _ y => (nomatch y)⟩, rfl, trivial⟩ L1.1 (fun _ y => (nomatch y)) d_L_1531 (cV_X12_story (0 + 2) 0 0) kc_12 (ws_1 L1.1.1) tw_2544 rfl ⟨⟨show 0 + 2 + 1 ≤ 2048 from by decide, show 8 + (5 + 11) + 100 * (0 + 2) ≤ 84000 from by decide⟩, rfl, rfl⟩ ⟨show kc ≤ 494584 by omega, show ks ≤ 7612352 by omega⟩ ⟨_, rfl⟩ d_L_1534 (fun h2 I2 F2 => ?_)
  have L2 := L1.fr I2 F2 (by decide +kernel)
  refine aw_goto (tgt := 2406) d_L_1535 rfl ?_
  exact O _ _ _ _ L2 R.up
theorem lc_31 {L t N kc ks : Nat} {xs : Nat → Int32} {h : Hp_} (hL : 6 * t + 6 ≤ L) (lL : L ≤ 3072) (L0 : Li N h) (R : Rm t N kc ks) (O : ∀ N kc ks h, Li N h → Rm (t + 1) N kc ks → AW (ML L xs) kc ks 2406 (lv5 (6 * t)) [] h k1_) : AW (ML L xs) kc ks 1538 (lv5 (6 * t)) [] h k1_ := by
  have hk := R.ok (by omega)
  refine aw_aload_n (i := 1) rfl d_L_1538 1 rfl ?_
  refine aw_arg (j := 1) d_L_1539 d_L_1540 d_L_1542 d_L_1543 d_L_1544 ic_1 (oa_1 (by omega)) (by omega) lL ?_
  refine aw_Kp (M' := m_X11_next (0 + 5) 0 0) (a := 0) [.int (xs (6 * t + 1))] (hc_X11_next 0) ⟨⟨_, rfl, rtop_in _, fun _ y => (nomatch y)⟩, rfl, trivial⟩ L0.1 (fun _ y => (nomatch y)) d_L_1545 (cV_X11_next (0 + 5) 0 0) kc_11 (ws_0 L0.1.1) tw_1305 rfl ⟨⟨show 0 + 5 + 1 ≤ 2048 from by decide, show 8 + (2 + 11) + 100 * (0 + 5) ≤ 84000 from by decide⟩, rfl, rfl⟩ ⟨show kc ≤ 494584 by omega, show ks ≤ 7612352 by omega⟩ ⟨_, rfl⟩ d_L_1548 (fun h1 I1 F1 => ?_)
  have L1 := L0.fr I1 F1 (by decide +kernel)
  refine aw_aload_n (i := 2) rfl d_L_1549 2 rfl ?_
  refine aw_arg (j := 1) d_L_1550 d_L_1551 d_L_1553 d_L_1554 d_L_1555 ic_1 (oa_1 (by omega)) (by omega) lL ?_
  refine aw_Kp (M' := m_X12_next (0 + 3) 0 0) (a := 1) [.int (xs (6 * t + 1))] (hc_X12_next 0) ⟨⟨_, rfl, rtop_in _, fun _ y => (nomatch y)⟩, rfl, trivial⟩ L1.1 (fun _ y => (nomatch y)) d_L_1556 (cV_X12_next (0 + 3) 0 0) kc_12 (ws_1 L1.1.1) tw_2548 rfl ⟨⟨show 0 + 3 + 1 ≤ 2048 from by decide, show 8 + (11 + 11) + 100 * (0 + 3) ≤ 84000 from by decide⟩, rfl, rfl⟩ ⟨show kc ≤ 494584 by omega, show ks ≤ 7612352 by omega⟩ ⟨_, rfl⟩ d_L_1559 (fun h2 I2 F2 => ?_)
  have L2 := L1.fr I2 F2 (by decide +kernel)
  refine aw_goto (tgt := 2406) d_L_1560 rfl ?_
  exact O _ _ _ _ L2 R.up
theorem lc_32 {L t N kc ks : Nat} {xs : Nat → Int32} {h : Hp_} (hL : 6 * t + 6 ≤ L) (lL : L ≤ 3072) (L0 : Li N h) (R : Rm t N kc ks) (O : ∀ N kc ks h, Li N h → Rm (t + 1) N kc ks → AW (ML L xs) kc ks 2406 (lv5 (6 * t)) [] h k1_) : AW (ML L xs) kc ks 1563 (lv5 (6 * t)) [] h k1_ := by
  have hk := R.ok (by omega)
  refine aw_aload_n (i := 1) rfl d_L_1563 1 rfl ?_
  refine aw_arg (j := 1) d_L_1564 d_L_1565 d_L_1567 d_L_1568 d_L_1569 ic_1 (oa_1 (by omega)) (by omega) lL ?_
  refine aw_if_eq (tgt := 1577) d_L_1570 rfl (fun y1570 => ?_) (fun y1570 => ?_)
  · refine aw_iconst (v := 0) d_L_1577 ic_0 ?_
    refine aw_arg (j := 2) d_L_1578 d_L_1579 d_L_1581 d_L_1582 d_L_1583 ic_2 (oa_2 (by omega)) (by omega) lL ?_
    refine aw_Kp (M' := m_X11_good (0 + 1) 0 0) (a := 0) [.int 0, .int (xs (6 * t + 2))] (hc_X11_good 0) ⟨⟨_, rfl, rtop_in _, fun _ y => (nomatch y)⟩, ⟨_, rfl, ⟨by decide, by decide⟩, fun _ y => (nomatch y)⟩, rfl, trivial⟩ L0.1 (fun _ y => (nomatch y)) d_L_1584 (cV_X11_good (0 + 1) 0 0) kc_11 (ws_0 L0.1.1) tw_1314 rfl ⟨⟨show 0 + 1 + 1 ≤ 2048 from by decide, show 8 + (3 + 11) + 100 * (0 + 1) ≤ 84000 from by decide⟩, rfl, rfl⟩ ⟨show kc ≤ 494584 by omega, show ks ≤ 7612352 by omega⟩ ⟨_, rfl⟩ d_L_1587 (fun h1 I1 F1 => ?_)
    have L1 := L0.fr I1 F1 (by decide +kernel)
    refine aw_aload_n (i := 2) rfl d_L_1588 2 rfl ?_
    refine aw_arg (j := 1) d_L_1589 d_L_1590 d_L_1592 d_L_1593 d_L_1594 ic_1 (oa_1 (by omega)) (by omega) lL ?_
    refine aw_if_eq (tgt := 1602) d_L_1595 rfl (fun _ => ?_) (fun z => absurd y1570 z)
    refine aw_iconst (v := 0) d_L_1602 ic_0 ?_
    refine aw_arg (j := 2) d_L_1603 d_L_1604 d_L_1606 d_L_1607 d_L_1608 ic_2 (oa_2 (by omega)) (by omega) lL ?_
    refine aw_Kp (M' := m_X12_good (0 + 1) 0 0) (a := 1) [.int 0, .int (xs (6 * t + 2))] (hc_X12_good 0) ⟨⟨_, rfl, rtop_in _, fun _ y => (nomatch y)⟩, ⟨_, rfl, ⟨by decide, by decide⟩, fun _ y => (nomatch y)⟩, rfl, trivial⟩ L1.1 (fun _ y => (nomatch y)) d_L_1609 (cV_X12_good (0 + 1) 0 0) kc_12 (ws_1 L1.1.1) tw_2553 rfl ⟨⟨show 0 + 1 + 1 ≤ 2048 from by decide, show 8 + (3 + 11) + 100 * (0 + 1) ≤ 84000 from by decide⟩, rfl, rfl⟩ ⟨show kc ≤ 494584 by omega, show ks ≤ 7612352 by omega⟩ ⟨_, rfl⟩ d_L_1612 (fun h2 I2 F2 => ?_)
    have L2 := L1.fr I2 F2 (by decide +kernel)
    refine aw_goto (tgt := 2406) d_L_1613 rfl ?_
    exact O _ _ _ _ L2 R.up
  · refine aw_iconst (v := 1) d_L_1573 ic_1 ?_
    refine aw_goto (tgt := 1578) d_L_1574 rfl ?_
    refine aw_arg (j := 2) d_L_1578 d_L_1579 d_L_1581 d_L_1582 d_L_1583 ic_2 (oa_2 (by omega)) (by omega) lL ?_
    refine aw_Kp (M' := m_X11_good (0 + 1) 0 0) (a := 0) [.int 1, .int (xs (6 * t + 2))] (hc_X11_good 0) ⟨⟨_, rfl, rtop_in _, fun _ y => (nomatch y)⟩, ⟨_, rfl, ⟨by decide, by decide⟩, fun _ y => (nomatch y)⟩, rfl, trivial⟩ L0.1 (fun _ y => (nomatch y)) d_L_1584 (cV_X11_good (0 + 1) 0 0) kc_11 (ws_0 L0.1.1) tw_1314 rfl ⟨⟨show 0 + 1 + 1 ≤ 2048 from by decide, show 8 + (3 + 11) + 100 * (0 + 1) ≤ 84000 from by decide⟩, rfl, rfl⟩ ⟨show kc ≤ 494584 by omega, show ks ≤ 7612352 by omega⟩ ⟨_, rfl⟩ d_L_1587 (fun h1 I1 F1 => ?_)
    have L1 := L0.fr I1 F1 (by decide +kernel)
    refine aw_aload_n (i := 2) rfl d_L_1588 2 rfl ?_
    refine aw_arg (j := 1) d_L_1589 d_L_1590 d_L_1592 d_L_1593 d_L_1594 ic_1 (oa_1 (by omega)) (by omega) lL ?_
    refine aw_if_eq (tgt := 1602) d_L_1595 rfl (fun z => absurd z y1570) (fun _ => ?_)
    refine aw_iconst (v := 1) d_L_1598 ic_1 ?_
    refine aw_goto (tgt := 1603) d_L_1599 rfl ?_
    refine aw_arg (j := 2) d_L_1603 d_L_1604 d_L_1606 d_L_1607 d_L_1608 ic_2 (oa_2 (by omega)) (by omega) lL ?_
    refine aw_Kp (M' := m_X12_good (0 + 1) 0 0) (a := 1) [.int 1, .int (xs (6 * t + 2))] (hc_X12_good 0) ⟨⟨_, rfl, rtop_in _, fun _ y => (nomatch y)⟩, ⟨_, rfl, ⟨by decide, by decide⟩, fun _ y => (nomatch y)⟩, rfl, trivial⟩ L1.1 (fun _ y => (nomatch y)) d_L_1609 (cV_X12_good (0 + 1) 0 0) kc_12 (ws_1 L1.1.1) tw_2553 rfl ⟨⟨show 0 + 1 + 1 ≤ 2048 from by decide, show 8 + (3 + 11) + 100 * (0 + 1) ≤ 84000 from by decide⟩, rfl, rfl⟩ ⟨show kc ≤ 494584 by omega, show ks ≤ 7612352 by omega⟩ ⟨_, rfl⟩ d_L_1612 (fun h2 I2 F2 => ?_)
    have L2 := L1.fr I2 F2 (by decide +kernel)
    refine aw_goto (tgt := 2406) d_L_1613 rfl ?_
    exact O _ _ _ _ L2 R.up
theorem lc_33 {L t N kc ks : Nat} {xs : Nat → Int32} {h : Hp_} (hL : 6 * t + 6 ≤ L) (lL : L ≤ 3072) (L0 : Li N h) (R : Rm t N kc ks) (O : ∀ N kc ks h, Li N h → Rm (t + 1) N kc ks → AW (ML L xs) kc ks 2406 (lv5 (6 * t)) [] h k1_) : AW (ML L xs) kc ks 1616 (lv5 (6 * t)) [] h k1_ := by
  have hk := R.ok (by omega)
  refine aw_aload_n (i := 1) rfl d_L_1616 1 rfl ?_
  refine aw_arg (j := 1) d_L_1617 d_L_1618 d_L_1620 d_L_1621 d_L_1622 ic_1 (oa_1 (by omega)) (by omega) lL ?_
  refine aw_Kp (M' := m_X11_least (0 + 1) 0 0) (a := 0) [.int (xs (6 * t + 1))] (hc_X11_least 0) ⟨⟨_, rfl, rtop_in _, fun _ y => (nomatch y)⟩, rfl, trivial⟩ L0.1 (fun _ y => (nomatch y)) d_L_1623 (cV_X11_least (0 + 1) 0 0) kc_11 (ws_0 L0.1.1) tw_1323 rfl ⟨⟨show 0 + 1 + 1 ≤ 2048 from by decide, show 8 + (2 + 11) + 100 * (0 + 1) ≤ 84000 from by decide⟩, rfl, rfl⟩ ⟨show kc ≤ 494584 by omega, show ks ≤ 7612352 by omega⟩ ⟨_, rfl⟩ d_L_1626 (fun h1 I1 F1 => ?_)
  have L1 := L0.fr I1 F1 (by decide +kernel)
  refine aw_aload_n (i := 2) rfl d_L_1627 2 rfl ?_
  refine aw_arg (j := 1) d_L_1628 d_L_1629 d_L_1631 d_L_1632 d_L_1633 ic_1 (oa_1 (by omega)) (by omega) lL ?_
  refine aw_Kp (M' := m_X12_least (0 + 1) 0 0) (a := 1) [.int (xs (6 * t + 1))] (hc_X12_least 0) ⟨⟨_, rfl, rtop_in _, fun _ y => (nomatch y)⟩, rfl, trivial⟩ L1.1 (fun _ y => (nomatch y)) d_L_1634 (cV_X12_least (0 + 1) 0 0) kc_12 (ws_1 L1.1.1) tw_2558 rfl ⟨⟨show 0 + 1 + 1 ≤ 2048 from by decide, show 8 + (2 + 11) + 100 * (0 + 1) ≤ 84000 from by decide⟩, rfl, rfl⟩ ⟨show kc ≤ 494584 by omega, show ks ≤ 7612352 by omega⟩ ⟨_, rfl⟩ d_L_1637 (fun h2 I2 F2 => ?_)
  have L2 := L1.fr I2 F2 (by decide +kernel)
  refine aw_goto (tgt := 2406) d_L_1638 rfl ?_
  exact O _ _ _ _ L2 R.up
theorem lc_34 {L t N kc ks : Nat} {xs : Nat → Int32} {h : Hp_} (hL : 6 * t + 6 ≤ L) (lL : L ≤ 3072) (L0 : Li N h) (R : Rm t N kc ks) (O : ∀ N kc ks h, Li N h → Rm (t + 1) N kc ks → AW (ML L xs) kc ks 2406 (lv5 (6 * t)) [] h k1_) : AW (ML L xs) kc ks 1641 (lv5 (6 * t)) [] h k1_ := by
  have hk := R.ok (by omega)
  refine aw_aload_n (i := 1) rfl d_L_1641 1 rfl ?_
  refine aw_Kp (M' := m_X11_joining (0 + 5) 0 0) (a := 0) [] (hc_X11_joining 0) ⟨rfl, trivial⟩ L0.1 (fun _ y => (nomatch y)) d_L_1642 (cV_X11_joining (0 + 5) 0 0) kc_11 (ws_0 L0.1.1) tw_1331 rfl ⟨⟨show 0 + 5 + 1 ≤ 2048 from by decide, show 8 + (1 + 11) + 100 * (0 + 5) ≤ 84000 from by decide⟩, rfl, rfl⟩ ⟨show kc ≤ 494584 by omega, show ks ≤ 7612352 by omega⟩ ⟨_, rfl⟩ d_L_1645 (fun h1 I1 F1 => ?_)
  have L1 := L0.fr I1 F1 (by decide +kernel)
  refine aw_aload_n (i := 2) rfl d_L_1646 2 rfl ?_
  refine aw_Kp (M' := m_X12_joining (0 + 2) 0 0) (a := 1) [] (hc_X12_joining 0) ⟨rfl, trivial⟩ L1.1 (fun _ y => (nomatch y)) d_L_1647 (cV_X12_joining (0 + 2) 0 0) kc_12 (ws_1 L1.1.1) tw_2562 rfl ⟨⟨show 0 + 2 + 1 ≤ 2048 from by decide, show 8 + (1 + 11) + 100 * (0 + 2) ≤ 84000 from by decide⟩, rfl, rfl⟩ ⟨show kc ≤ 494584 by omega, show ks ≤ 7612352 by omega⟩ ⟨_, rfl⟩ d_L_1650 (fun h2 I2 F2 => ?_)
  have L2 := L1.fr I2 F2 (by decide +kernel)
  refine aw_goto (tgt := 2406) d_L_1651 rfl ?_
  exact O _ _ _ _ L2 R.up
theorem lc_35 {L t N kc ks : Nat} {xs : Nat → Int32} {h : Hp_} (hL : 6 * t + 6 ≤ L) (lL : L ≤ 3072) (L0 : Li N h) (R : Rm t N kc ks) (O : ∀ N kc ks h, Li N h → Rm (t + 1) N kc ks → AW (ML L xs) kc ks 2406 (lv5 (6 * t)) [] h k1_) : AW (ML L xs) kc ks 1654 (lv5 (6 * t)) [] h k1_ := by
  have hk := R.ok (by omega)
  refine aw_aload_n (i := 1) rfl d_L_1654 1 rfl ?_
  refine aw_arg (j := 1) d_L_1655 d_L_1656 d_L_1658 d_L_1659 d_L_1660 ic_1 (oa_1 (by omega)) (by omega) lL ?_
  refine aw_Kp (M' := m_X11_joined (0 + 5) 0 0) (a := 0) [.int (xs (6 * t + 1))] (hc_X11_joined 0) ⟨⟨_, rfl, rtop_in _, fun _ y => (nomatch y)⟩, rfl, trivial⟩ L0.1 (fun _ y => (nomatch y)) d_L_1661 (cV_X11_joined (0 + 5) 0 0) kc_11 (ws_0 L0.1.1) tw_1376 rfl ⟨⟨show 0 + 5 + 1 ≤ 2048 from by decide, show 8 + (2 + 11) + 100 * (0 + 5) ≤ 84000 from by decide⟩, rfl, rfl⟩ ⟨show kc ≤ 494584 by omega, show ks ≤ 7612352 by omega⟩ ⟨_, rfl⟩ d_L_1664 (fun h1 I1 F1 => ?_)
  have L1 := L0.fr I1 F1 (by decide +kernel)
  refine aw_aload_n (i := 2) rfl d_L_1665 2 rfl ?_
  refine aw_arg (j := 1) d_L_1666 d_L_1667 d_L_1669 d_L_1670 d_L_1671 ic_1 (oa_1 (by omega)) (by omega) lL ?_
  refine aw_Kp (M' := m_X12_joined (0 + 2) 0 0) (a := 1) [.int (xs (6 * t + 1))] (hc_X12_joined 0) ⟨⟨_, rfl, rtop_in _, fun _ y => (nomatch y)⟩, rfl, trivial⟩ L1.1 (fun _ y => (nomatch y)) d_L_1672 (cV_X12_joined (0 + 2) 0 0) kc_12 (ws_1 L1.1.1) tw_2574 rfl ⟨⟨show 0 + 2 + 1 ≤ 2048 from by decide, show 8 + (7 + 11) + 100 * (0 + 2) ≤ 84000 from by decide⟩, rfl, rfl⟩ ⟨show kc ≤ 494584 by omega, show ks ≤ 7612352 by omega⟩ ⟨_, rfl⟩ d_L_1675 (fun h2 I2 F2 => ?_)
  have L2 := L1.fr I2 F2 (by decide +kernel)
  refine aw_goto (tgt := 2406) d_L_1676 rfl ?_
  exact O _ _ _ _ L2 R.up
theorem lc_36 {L t N kc ks : Nat} {xs : Nat → Int32} {h : Hp_} (hL : 6 * t + 6 ≤ L) (lL : L ≤ 3072) (L0 : Li N h) (R : Rm t N kc ks) (O : ∀ N kc ks h, Li N h → Rm (t + 1) N kc ks → AW (ML L xs) kc ks 2406 (lv5 (6 * t)) [] h k1_) : AW (ML L xs) kc ks 1679 (lv5 (6 * t)) [] h k1_ := by
  have hk := R.ok (by omega)
  refine aw_aload_n (i := 1) rfl d_L_1679 1 rfl ?_
  refine aw_arg (j := 1) d_L_1680 d_L_1681 d_L_1683 d_L_1684 d_L_1685 ic_1 (oa_1 (by omega)) (by omega) lL ?_
  refine aw_Kp (M' := m_X11_rivals (0 + 5) 0 0) (a := 0) [.int (xs (6 * t + 1))] (hc_X11_rivals 0) ⟨⟨_, rfl, rtop_in _, fun _ y => (nomatch y)⟩, rfl, trivial⟩ L0.1 (fun _ y => (nomatch y)) d_L_1686 (cV_X11_rivals (0 + 5) 0 0) kc_11 (ws_0 L0.1.1) tw_1389 rfl ⟨⟨show 0 + 5 + 1 ≤ 2048 from by decide, show 8 + (2 + 11) + 100 * (0 + 5) ≤ 84000 from by decide⟩, rfl, rfl⟩ ⟨show kc ≤ 494584 by omega, show ks ≤ 7612352 by omega⟩ ⟨_, rfl⟩ d_L_1689 (fun h1 I1 F1 => ?_)
  have L1 := L0.fr I1 F1 (by decide +kernel)
  refine aw_aload_n (i := 2) rfl d_L_1690 2 rfl ?_
  refine aw_arg (j := 1) d_L_1691 d_L_1692 d_L_1694 d_L_1695 d_L_1696 ic_1 (oa_1 (by omega)) (by omega) lL ?_
  refine aw_Kp (M' := m_X12_rivals (0 + 4) 0 0) (a := 1) [.int (xs (6 * t + 1))] (hc_X12_rivals 0) ⟨⟨_, rfl, rtop_in _, fun _ y => (nomatch y)⟩, rfl, trivial⟩ L1.1 (fun _ y => (nomatch y)) d_L_1697 (cV_X12_rivals (0 + 4) 0 0) kc_12 (ws_1 L1.1.1) tw_2582 rfl ⟨⟨show 0 + 4 + 1 ≤ 2048 from by decide, show 8 + (2 + 11) + 100 * (0 + 4) ≤ 84000 from by decide⟩, rfl, rfl⟩ ⟨show kc ≤ 494584 by omega, show ks ≤ 7612352 by omega⟩ ⟨_, rfl⟩ d_L_1700 (fun h2 I2 F2 => ?_)
  have L2 := L1.fr I2 F2 (by decide +kernel)
  refine aw_goto (tgt := 2406) d_L_1701 rfl ?_
  exact O _ _ _ _ L2 R.up
theorem lc_37 {L t N kc ks : Nat} {xs : Nat → Int32} {h : Hp_} (hL : 6 * t + 6 ≤ L) (lL : L ≤ 3072) (L0 : Li N h) (R : Rm t N kc ks) (O : ∀ N kc ks h, Li N h → Rm (t + 1) N kc ks → AW (ML L xs) kc ks 2406 (lv5 (6 * t)) [] h k1_) : AW (ML L xs) kc ks 1704 (lv5 (6 * t)) [] h k1_ := by
  have hk := R.ok (by omega)
  refine aw_aload_n (i := 1) rfl d_L_1704 1 rfl ?_
  refine aw_arg (j := 1) d_L_1705 d_L_1706 d_L_1708 d_L_1709 d_L_1710 ic_1 (oa_1 (by omega)) (by omega) lL ?_
  refine aw_Kp (M' := m_X11_sure (0 + 5) 0 0) (a := 0) [.int (xs (6 * t + 1))] (hc_X11_sure 0) ⟨⟨_, rfl, rtop_in _, fun _ y => (nomatch y)⟩, rfl, trivial⟩ L0.1 (fun _ y => (nomatch y)) d_L_1711 (cV_X11_sure (0 + 5) 0 0) kc_11 (ws_0 L0.1.1) tw_1397 rfl ⟨⟨show 0 + 5 + 1 ≤ 2048 from by decide, show 8 + (2 + 11) + 100 * (0 + 5) ≤ 84000 from by decide⟩, rfl, rfl⟩ ⟨show kc ≤ 494584 by omega, show ks ≤ 7612352 by omega⟩ ⟨_, rfl⟩ d_L_1714 (fun h1 I1 F1 => ?_)
  have L1 := L0.fr I1 F1 (by decide +kernel)
  refine aw_aload_n (i := 2) rfl d_L_1715 2 rfl ?_
  refine aw_arg (j := 1) d_L_1716 d_L_1717 d_L_1719 d_L_1720 d_L_1721 ic_1 (oa_1 (by omega)) (by omega) lL ?_
  refine aw_Kp (M' := m_X12_sure (0 + 4) 0 0) (a := 1) [.int (xs (6 * t + 1))] (hc_X12_sure 0) ⟨⟨_, rfl, rtop_in _, fun _ y => (nomatch y)⟩, rfl, trivial⟩ L1.1 (fun _ y => (nomatch y)) d_L_1722 (cV_X12_sure (0 + 4) 0 0) kc_12 (ws_1 L1.1.1) tw_2591 rfl ⟨⟨show 0 + 4 + 1 ≤ 2048 from by decide, show 8 + (4 + 11) + 100 * (0 + 4) ≤ 84000 from by decide⟩, rfl, rfl⟩ ⟨show kc ≤ 494584 by omega, show ks ≤ 7612352 by omega⟩ ⟨_, rfl⟩ d_L_1725 (fun h2 I2 F2 => ?_)
  have L2 := L1.fr I2 F2 (by decide +kernel)
  refine aw_goto (tgt := 2406) d_L_1726 rfl ?_
  exact O _ _ _ _ L2 R.up
theorem lc_38 {L t N kc ks : Nat} {xs : Nat → Int32} {h : Hp_} (hL : 6 * t + 6 ≤ L) (lL : L ≤ 3072) (L0 : Li N h) (R : Rm t N kc ks) (O : ∀ N kc ks h, Li N h → Rm (t + 1) N kc ks → AW (ML L xs) kc ks 2406 (lv5 (6 * t)) [] h k1_) : AW (ML L xs) kc ks 1729 (lv5 (6 * t)) [] h k1_ := by
  have hk := R.ok (by omega)
  refine aw_aload_n (i := 1) rfl d_L_1729 1 rfl ?_
  refine aw_arg (j := 1) d_L_1730 d_L_1731 d_L_1733 d_L_1734 d_L_1735 ic_1 (oa_1 (by omega)) (by omega) lL ?_
  refine aw_arg (j := 2) d_L_1736 d_L_1737 d_L_1739 d_L_1740 d_L_1741 ic_2 (oa_2 (by omega)) (by omega) lL ?_
  refine aw_arg (j := 3) d_L_1742 d_L_1743 d_L_1745 d_L_1746 d_L_1747 ic_3 (oa_3 (by omega)) (by omega) lL ?_
  refine aw_Kp (M' := m_X11_watch (0 + 1) 0 0) (a := 0) [.int (xs (6 * t + 1)), .int (xs (6 * t + 2)), .int (xs (6 * t + 3))] (hc_X11_watch 0) ⟨⟨_, rfl, rtop_in _, fun _ y => (nomatch y)⟩, ⟨_, rfl, rtop_in _, fun _ y => (nomatch y)⟩, ⟨_, rfl, rtop_in _, fun _ y => (nomatch y)⟩, rfl, trivial⟩ L0.1 (fun _ y => (nomatch y)) d_L_1748 (cV_X11_watch (0 + 1) 0 0) kc_11 (ws_0 L0.1.1) tw_1406 rfl ⟨⟨show 0 + 1 + 1 ≤ 2048 from by decide, show 8 + (4 + 11) + 100 * (0 + 1) ≤ 84000 from by decide⟩, rfl, rfl⟩ ⟨show kc ≤ 494584 by omega, show ks ≤ 7612352 by omega⟩ ⟨_, rfl⟩ d_L_1751 (fun h1 I1 F1 => ?_)
  have L1 := L0.fr I1 F1 (by decide +kernel)
  refine aw_aload_n (i := 2) rfl d_L_1752 2 rfl ?_
  refine aw_arg (j := 1) d_L_1753 d_L_1754 d_L_1756 d_L_1757 d_L_1758 ic_1 (oa_1 (by omega)) (by omega) lL ?_
  refine aw_arg (j := 2) d_L_1759 d_L_1760 d_L_1762 d_L_1763 d_L_1764 ic_2 (oa_2 (by omega)) (by omega) lL ?_
  refine aw_arg (j := 3) d_L_1765 d_L_1766 d_L_1768 d_L_1769 d_L_1770 ic_3 (oa_3 (by omega)) (by omega) lL ?_
  refine aw_Kp (M' := m_X12_watch (0 + 2) 0 0) (a := 1) [.int (xs (6 * t + 1)), .int (xs (6 * t + 2)), .int (xs (6 * t + 3))] (hc_X12_watch 0) ⟨⟨_, rfl, rtop_in _, fun _ y => (nomatch y)⟩, ⟨_, rfl, rtop_in _, fun _ y => (nomatch y)⟩, ⟨_, rfl, rtop_in _, fun _ y => (nomatch y)⟩, rfl, trivial⟩ L1.1 (fun _ y => (nomatch y)) d_L_1771 (cV_X12_watch (0 + 2) 0 0) kc_12 (ws_1 L1.1.1) tw_2595 rfl ⟨⟨show 0 + 2 + 1 ≤ 2048 from by decide, show 8 + (4 + 11) + 100 * (0 + 2) ≤ 84000 from by decide⟩, rfl, rfl⟩ ⟨show kc ≤ 494584 by omega, show ks ≤ 7612352 by omega⟩ ⟨_, rfl⟩ d_L_1774 (fun h2 I2 F2 => ?_)
  have L2 := L1.fr I2 F2 (by decide +kernel)
  refine aw_goto (tgt := 2406) d_L_1775 rfl ?_
  exact O _ _ _ _ L2 R.up
theorem lc_39 {L t N kc ks : Nat} {xs : Nat → Int32} {h : Hp_} (hL : 6 * t + 6 ≤ L) (lL : L ≤ 3072) (L0 : Li N h) (R : Rm t N kc ks) (O : ∀ N kc ks h, Li N h → Rm (t + 1) N kc ks → AW (ML L xs) kc ks 2406 (lv5 (6 * t)) [] h k1_) : AW (ML L xs) kc ks 1778 (lv5 (6 * t)) [] h k1_ := by
  have hk := R.ok (by omega)
  refine aw_aload_n (i := 1) rfl d_L_1778 1 rfl ?_
  refine aw_arg (j := 1) d_L_1779 d_L_1780 d_L_1782 d_L_1783 d_L_1784 ic_1 (oa_1 (by omega)) (by omega) lL ?_
  refine aw_arg (j := 2) d_L_1785 d_L_1786 d_L_1788 d_L_1789 d_L_1790 ic_2 (oa_2 (by omega)) (by omega) lL ?_
  refine aw_Kp (M' := m_X11_sees (0 + 4) 0 0) (a := 0) [.int (xs (6 * t + 1)), .int (xs (6 * t + 2))] (hc_X11_sees 0) ⟨⟨_, rfl, rtop_in _, fun _ y => (nomatch y)⟩, ⟨_, rfl, rtop_in _, fun _ y => (nomatch y)⟩, rfl, trivial⟩ L0.1 (fun _ y => (nomatch y)) d_L_1791 (cV_X11_sees (0 + 4) 0 0) kc_11 (ws_0 L0.1.1) tw_1414 rfl ⟨⟨show 0 + 4 + 1 ≤ 2048 from by decide, show 8 + (3 + 11) + 100 * (0 + 4) ≤ 84000 from by decide⟩, rfl, rfl⟩ ⟨show kc ≤ 494584 by omega, show ks ≤ 7612352 by omega⟩ ⟨_, rfl⟩ d_L_1794 (fun h1 I1 F1 => ?_)
  have L1 := L0.fr I1 F1 (by decide +kernel)
  refine aw_aload_n (i := 2) rfl d_L_1795 2 rfl ?_
  refine aw_arg (j := 1) d_L_1796 d_L_1797 d_L_1799 d_L_1800 d_L_1801 ic_1 (oa_1 (by omega)) (by omega) lL ?_
  refine aw_arg (j := 2) d_L_1802 d_L_1803 d_L_1805 d_L_1806 d_L_1807 ic_2 (oa_2 (by omega)) (by omega) lL ?_
  refine aw_Kp (M' := m_X12_sees (0 + 2) 0 0) (a := 1) [.int (xs (6 * t + 1)), .int (xs (6 * t + 2))] (hc_X12_sees 0) ⟨⟨_, rfl, rtop_in _, fun _ y => (nomatch y)⟩, ⟨_, rfl, rtop_in _, fun _ y => (nomatch y)⟩, rfl, trivial⟩ L1.1 (fun _ y => (nomatch y)) d_L_1808 (cV_X12_sees (0 + 2) 0 0) kc_12 (ws_1 L1.1.1) tw_2599 rfl ⟨⟨show 0 + 2 + 1 ≤ 2048 from by decide, show 8 + (3 + 11) + 100 * (0 + 2) ≤ 84000 from by decide⟩, rfl, rfl⟩ ⟨show kc ≤ 494584 by omega, show ks ≤ 7612352 by omega⟩ ⟨_, rfl⟩ d_L_1811 (fun h2 I2 F2 => ?_)
  have L2 := L1.fr I2 F2 (by decide +kernel)
  refine aw_goto (tgt := 2406) d_L_1812 rfl ?_
  exact O _ _ _ _ L2 R.up
