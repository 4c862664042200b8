/-! the cases of the law's loop: back, build, mend, run, set, undo, truePrint, ifRevised -/
set_option maxHeartbeats 4000000 in
set_option maxRecDepth 100000 in
theorem law_c1074 : LCase 1074 := by
  intro p l e s m below meth c D cs z A adK adV w oo b L xs Q x4 w1 w2 w3 d Os T M g H locs cells slots ls K hi1 hi2 hi3 hw1 hw2 hw3 hR h7 h9 hP hS hl hc1 hc2 next
  have hx := K.hx
  have hb := K.hb
  have ok := fc_back (d := d) hR (by omega) w1
  have k0 := c_L_back l D cs z A adK adV oo Os T g w1 K.hd K.ho K.hlst hR.hn (okf_2 rfl ok)
  have k1 := c_X8_back l D cs w M w1 K.hm hR.mv hR.h0
  have ow := okf_w g (by decide) ok
  unfold sL_back at k0
  obtain ⟨σ, hσ⟩ : ∃ y, (wr [3, 2] (sX7_back Os T w1) g) = y := ⟨_, rfl⟩
  obtain ⟨ρ, hρ⟩ : ∃ y, (sX8_back M w1) = y := ⟨_, rfl⟩
  rw [hσ] at k0
  rw [hσ, hρ] at ow
  rw [hρ] at k1
  refine lv_aload_n hx hb d_law_1074 rfl (lv_at hl 1 rfl) ?_
  refine law_arg (v := 1) K hS (lv_sub hl [0, 4] rfl) d_law_1075 d_law_1076 d_law_1078 d_law_1079 d_law_1080 (by decide) hi1 hw1 ?_
  refine lv_aload_n hx hb d_law_1081 rfl (lv_at hl 3 rfl) ?_
  refine law_w K hP hS (vx_runSW (As := [.ref (z 0), .int w1, .ref oo]) (rest := []) ⟨hx, hb, K.hml, K.hown, K.hts⟩ k0 (vx_cwSW 3 K.hts (good_SW w_ml_L_170 w_st_L_back w_in_L w_co_L_back) rfl rfl rfl hd_L_back ⟨Nat.le_of_ble_eq_true rfl, Nat.le_of_ble_eq_true rfl⟩) (lwe_S K hP hS _) rfl rfl hl.1 rfl (lv_room (Nat.le_of_ble_eq_true rfl)) d_law_1082 ⟨by show cells + 1 ≤ 601024; omega, by show slots + 6 ≤ 7293034; omega⟩) (fun H locs hP hS => ?_)
  refine lv_istore (lv' := (5, .int σ.1) :: lvs b z w oo x4) hx hb d_law_1085 hl (by decide) rfl (fun ls hl => ?_)
  refine lv_aload_n hx hb d_law_1087 rfl (lv_at hl 3 rfl) ?_
  refine law_arg (v := 1) K hS (lv_sub hl [1, 5] rfl) d_law_1088 d_law_1089 d_law_1091 d_law_1092 d_law_1093 (by decide) hi1 hw1 ?_
  refine law_m K hP hS (va_runV (As := [.int w1]) (rest := []) ⟨hx, hb, K.hml, K.hown, K.hts⟩ k1 (cwV 1 K.hts (good_V w_ml_L_172 w_im_X8_back w_se_X8_back w_in_X8 w_co_X8_back) rfl rfl rfl ⟨rfl, hd_X8_back⟩ ⟨Nat.le_of_ble_eq_true rfl, Nat.le_of_ble_eq_true rfl⟩) (pe_V (ci := 8) (q0 := 0) hP.2.1 K.hE rfl rfl) rfl rfl hl.1 rfl (lv_room (Nat.le_of_ble_eq_true rfl)) d_law_1094 ⟨by show cells + 1 + 0 ≤ 601024; omega, by show slots + 6 + 0 ≤ 7293034; omega⟩) (fun H locs hP hS => ?_)
  refine lv_istore (lv' := (6, .int ρ.1) :: (5, .int σ.1) :: lvs b z w oo x4) hx hb d_law_1097 hl (by decide) rfl (fun ls hl => ?_)
  refine law_tail K hP hl d_law_1099 d_law_1100 d_law_1103 d_law_1105 d_law_1110 d_law_1112 d_law_1115 d_law_1116 d_law_1117 d_law_1118 d_law_1120 d_law_1121 d_law_1122 d_law_1127 (by decide) ⟨by omega, by omega⟩ ow.1 ow.2.1 ?_
  refine W.widen (k := cells + 2) (n := slots + 12) (by omega) (by omega) ?_
  exact next _ _ _ _ H locs ls (ow.2.2.mono (by omega)) hP hS (lv_sub hl [2, 3, 4, 5, 6] rfl)
set_option maxHeartbeats 4000000 in
set_option maxRecDepth 100000 in
theorem law_c1130 : LCase 1130 := by
  intro p l e s m below meth c D cs z A adK adV w oo b L xs Q x4 w1 w2 w3 d Os T M g H locs cells slots ls K hi1 hi2 hi3 hw1 hw2 hw3 hR h7 h9 hP hS hl hc1 hc2 next
  have hx := K.hx
  have hb := K.hb
  have ok := fc_build (d := d) hR w1 w2
  have k0 := c_L_build l D cs z A adK adV oo Os T g w1 w2 K.hd K.ho K.hlst hR.hn (okf_2 rfl ok)
  have k1 := c_X8_build l D cs w M w1 w2 K.hm hR.mv hR.h0
  have ow := okf_w g (by decide) ok
  unfold sL_build at k0
  obtain ⟨σ, hσ⟩ : ∃ y, (wr [3, 2] (sX7_build Os T w1 w2) g) = y := ⟨_, rfl⟩
  obtain ⟨ρ, hρ⟩ : ∃ y, (sX8_build M w1 w2) = y := ⟨_, rfl⟩
  rw [hσ] at k0
  rw [hσ, hρ] at ow
  rw [hρ] at k1
  refine lv_aload_n hx hb d_law_1130 rfl (lv_at hl 1 rfl) ?_
  refine law_arg (v := 1) K hS (lv_sub hl [0, 4] rfl) d_law_1131 d_law_1132 d_law_1134 d_law_1135 d_law_1136 (by decide) hi1 hw1 ?_
  refine law_arg (v := 2) K hS (lv_sub hl [0, 4] rfl) d_law_1137 d_law_1138 d_law_1140 d_law_1141 d_law_1142 (by decide) hi2 hw2 ?_
  refine lv_aload_n hx hb d_law_1143 rfl (lv_at hl 3 rfl) ?_
  refine law_w K hP hS (vx_runSW (As := [.ref (z 0), .int w1, .int w2, .ref oo]) (rest := []) ⟨hx, hb, K.hml, K.hown, K.hts⟩ k0 (vx_cwSW 4 K.hts (good_SW w_ml_L_173 w_st_L_build w_in_L w_co_L_build) rfl rfl rfl hd_L_build ⟨Nat.le_of_ble_eq_true rfl, Nat.le_of_ble_eq_true rfl⟩) (lwe_S K hP hS _) rfl rfl hl.1 rfl (lv_room (Nat.le_of_ble_eq_true rfl)) d_law_1144 ⟨by show cells + 1 ≤ 601024; omega, by show slots + 6 ≤ 7293034; omega⟩) (fun H locs hP hS => ?_)
  refine lv_istore (lv' := (5, .int σ.1) :: lvs b z w oo x4) hx hb d_law_1147 hl (by decide) rfl (fun ls hl => ?_)
  refine lv_aload_n hx hb d_law_1149 rfl (lv_at hl 3 rfl) ?_
  refine law_arg (v := 1) K hS (lv_sub hl [1, 5] rfl) d_law_1150 d_law_1151 d_law_1153 d_law_1154 d_law_1155 (by decide) hi1 hw1 ?_
  refine law_arg (v := 2) K hS (lv_sub hl [1, 5] rfl) d_law_1156 d_law_1157 d_law_1159 d_law_1160 d_law_1161 (by decide) hi2 hw2 ?_
  refine law_m K hP hS (va_runV (As := [.int w1, .int w2]) (rest := []) ⟨hx, hb, K.hml, K.hown, K.hts⟩ k1 (cwV 2 K.hts (good_V w_ml_L_175 w_im_X8_build w_se_X8_build w_in_X8 w_co_X8_build) rfl rfl rfl ⟨rfl, hd_X8_build⟩ ⟨Nat.le_of_ble_eq_true rfl, Nat.le_of_ble_eq_true rfl⟩) (pe_V (ci := 8) (q0 := 0) hP.2.1 K.hE rfl rfl) rfl rfl hl.1 rfl (lv_room (Nat.le_of_ble_eq_true rfl)) d_law_1162 ⟨by show cells + 1 + 0 ≤ 601024; omega, by show slots + 6 + 0 ≤ 7293034; omega⟩) (fun H locs hP hS => ?_)
  refine lv_istore (lv' := (6, .int ρ.1) :: (5, .int σ.1) :: lvs b z w oo x4) hx hb d_law_1165 hl (by decide) rfl (fun ls hl => ?_)
  refine law_tail K hP hl d_law_1167 d_law_1168 d_law_1171 d_law_1173 d_law_1178 d_law_1180 d_law_1183 d_law_1184 d_law_1185 d_law_1186 d_law_1188 d_law_1189 d_law_1190 d_law_1195 (by decide) ⟨by omega, by omega⟩ ow.1 ow.2.1 ?_
  refine W.widen (k := cells + 2) (n := slots + 12) (by omega) (by omega) ?_
  exact next _ _ _ _ H locs ls (ow.2.2.mono (by omega)) hP hS (lv_sub hl [2, 3, 4, 5, 6] rfl)
set_option maxHeartbeats 4000000 in
set_option maxRecDepth 100000 in
theorem law_c1198 : LCase 1198 := by
  intro p l e s m below meth c D cs z A adK adV w oo b L xs Q x4 w1 w2 w3 d Os T M g H locs cells slots ls K hi1 hi2 hi3 hw1 hw2 hw3 hR h7 h9 hP hS hl hc1 hc2 next
  have hx := K.hx
  have hb := K.hb
  have ok := fc_mend (d := d) hR w1
  have k0 := c_L_mend l D cs z A adK adV oo Os T g w1 K.hd K.ho K.hlst hR.hn (okf_2 rfl ok)
  have k1 := c_X8_mend l D cs w M w1 K.hm hR.mv hR.h0
  have ow := okf_w g (by decide) ok
  unfold sL_mend at k0
  obtain ⟨σ, hσ⟩ : ∃ y, (wr [3, 2] (sX7_mend Os T w1) g) = y := ⟨_, rfl⟩
  obtain ⟨ρ, hρ⟩ : ∃ y, (sX8_mend M w1) = y := ⟨_, rfl⟩
  rw [hσ] at k0
  rw [hσ, hρ] at ow
  rw [hρ] at k1
  refine lv_aload_n hx hb d_law_1198 rfl (lv_at hl 1 rfl) ?_
  refine law_arg (v := 1) K hS (lv_sub hl [0, 4] rfl) d_law_1199 d_law_1200 d_law_1202 d_law_1203 d_law_1204 (by decide) hi1 hw1 ?_
  refine lv_aload_n hx hb d_law_1205 rfl (lv_at hl 3 rfl) ?_
  refine law_w K hP hS (vx_runSW (As := [.ref (z 0), .int w1, .ref oo]) (rest := []) ⟨hx, hb, K.hml, K.hown, K.hts⟩ k0 (vx_cwSW 3 K.hts (good_SW w_ml_L_176 w_st_L_mend w_in_L w_co_L_mend) rfl rfl rfl hd_L_mend ⟨Nat.le_of_ble_eq_true rfl, Nat.le_of_ble_eq_true rfl⟩) (lwe_S K hP hS _) rfl rfl hl.1 rfl (lv_room (Nat.le_of_ble_eq_true rfl)) d_law_1206 ⟨by show cells + 1 ≤ 601024; omega, by show slots + 6 ≤ 7293034; omega⟩) (fun H locs hP hS => ?_)
  refine lv_istore (lv' := (5, .int σ.1) :: lvs b z w oo x4) hx hb d_law_1209 hl (by decide) rfl (fun ls hl => ?_)
  refine lv_aload_n hx hb d_law_1211 rfl (lv_at hl 3 rfl) ?_
  refine law_arg (v := 1) K hS (lv_sub hl [1, 5] rfl) d_law_1212 d_law_1213 d_law_1215 d_law_1216 d_law_1217 (by decide) hi1 hw1 ?_
  refine law_m K hP hS (va_runV (As := [.int w1]) (rest := []) ⟨hx, hb, K.hml, K.hown, K.hts⟩ k1 (cwV 1 K.hts (good_V w_ml_L_178 w_im_X8_mend w_se_X8_mend w_in_X8 w_co_X8_mend) rfl rfl rfl ⟨rfl, hd_X8_mend⟩ ⟨Nat.le_of_ble_eq_true rfl, Nat.le_of_ble_eq_true rfl⟩) (pe_V (ci := 8) (q0 := 0) hP.2.1 K.hE rfl rfl) rfl rfl hl.1 rfl (lv_room (Nat.le_of_ble_eq_true rfl)) d_law_1218 ⟨by show cells + 1 + 0 ≤ 601024; omega, by show slots + 6 + 0 ≤ 7293034; omega⟩) (fun H locs hP hS => ?_)
  refine lv_istore (lv' := (6, .int ρ.1) :: (5, .int σ.1) :: lvs b z w oo x4) hx hb d_law_1221 hl (by decide) rfl (fun ls hl => ?_)
  refine law_tail K hP hl d_law_1223 d_law_1224 d_law_1227 d_law_1229 d_law_1234 d_law_1236 d_law_1239 d_law_1240 d_law_1241 d_law_1242 d_law_1244 d_law_1245 d_law_1246 d_law_1251 (by decide) ⟨by omega, by omega⟩ ow.1 ow.2.1 ?_
  refine W.widen (k := cells + 2) (n := slots + 12) (by omega) (by omega) ?_
  exact next _ _ _ _ H locs ls (ow.2.2.mono (by omega)) hP hS (lv_sub hl [2, 3, 4, 5, 6] rfl)
set_option maxHeartbeats 4000000 in
set_option maxRecDepth 100000 in
theorem law_c1254 : LCase 1254 := by
  intro p l e s m below meth c D cs z A adK adV w oo b L xs Q x4 w1 w2 w3 d Os T M g H locs cells slots ls K hi1 hi2 hi3 hw1 hw2 hw3 hR h7 h9 hP hS hl hc1 hc2 next
  have hx := K.hx
  have hb := K.hb
  have ok := fc_run (d := d) hR (by omega) w1
  have k0 := c_L_run l D cs z A adK adV oo Os T g w1 K.hd K.ho K.hlst hR.hn (okf_0 rfl ok)
  have k1 := c_X8_run l D cs w M w1 K.hm hR.mv hR.h0
  have ow := okf_w g (by decide) ok
  unfold sL_run at k0
  obtain ⟨σ, hσ⟩ : ∃ y, (wr [1] (sX7_run Os T w1) g) = y := ⟨_, rfl⟩
  obtain ⟨ρ, hρ⟩ : ∃ y, (sX8_run M w1) = y := ⟨_, rfl⟩
  rw [hσ] at k0
  rw [hσ, hρ] at ow
  rw [hρ] at k1
  refine lv_aload_n hx hb d_law_1254 rfl (lv_at hl 1 rfl) ?_
  refine law_arg (v := 1) K hS (lv_sub hl [0, 4] rfl) d_law_1255 d_law_1256 d_law_1258 d_law_1259 d_law_1260 (by decide) hi1 hw1 ?_
  refine lv_aload_n hx hb d_law_1261 rfl (lv_at hl 3 rfl) ?_
  refine law_w K hP hS (vx_runSW (As := [.ref (z 0), .int w1, .ref oo]) (rest := []) ⟨hx, hb, K.hml, K.hown, K.hts⟩ k0 (vx_cwSW 3 K.hts (good_SW w_ml_L_179 w_st_L_run w_in_L w_co_L_run) rfl rfl rfl hd_L_run ⟨Nat.le_of_ble_eq_true rfl, Nat.le_of_ble_eq_true rfl⟩) (lwe_S K hP hS _) rfl rfl hl.1 rfl (lv_room (Nat.le_of_ble_eq_true rfl)) d_law_1262 ⟨by show cells + 1 ≤ 601024; omega, by show slots + 6 ≤ 7293034; omega⟩) (fun H locs hP hS => ?_)
  refine lv_istore (lv' := (5, .int σ.1) :: lvs b z w oo x4) hx hb d_law_1265 hl (by decide) rfl (fun ls hl => ?_)
  refine lv_aload_n hx hb d_law_1267 rfl (lv_at hl 3 rfl) ?_
  refine law_arg (v := 1) K hS (lv_sub hl [1, 5] rfl) d_law_1268 d_law_1269 d_law_1271 d_law_1272 d_law_1273 (by decide) hi1 hw1 ?_
  refine law_m K hP hS (va_runV (As := [.int w1]) (rest := []) ⟨hx, hb, K.hml, K.hown, K.hts⟩ k1 (cwV 1 K.hts (good_V w_ml_L_181 w_im_X8_run w_se_X8_run w_in_X8 w_co_X8_run) rfl rfl rfl ⟨rfl, hd_X8_run⟩ ⟨Nat.le_of_ble_eq_true rfl, Nat.le_of_ble_eq_true rfl⟩) (pe_V (ci := 8) (q0 := 0) hP.2.1 K.hE rfl rfl) rfl rfl hl.1 rfl (lv_room (Nat.le_of_ble_eq_true rfl)) d_law_1274 ⟨by show cells + 1 + 0 ≤ 601024; omega, by show slots + 6 + 0 ≤ 7293034; omega⟩) (fun H locs hP hS => ?_)
  refine lv_istore (lv' := (6, .int ρ.1) :: (5, .int σ.1) :: lvs b z w oo x4) hx hb d_law_1277 hl (by decide) rfl (fun ls hl => ?_)
  refine law_tail K hP hl d_law_1279 d_law_1280 d_law_1283 d_law_1285 d_law_1290 d_law_1292 d_law_1295 d_law_1296 d_law_1297 d_law_1298 d_law_1300 d_law_1301 d_law_1302 d_law_1307 (by decide) ⟨by omega, by omega⟩ ow.1 ow.2.1 ?_
  refine W.widen (k := cells + 2) (n := slots + 12) (by omega) (by omega) ?_
  exact next _ _ _ _ H locs ls (ow.2.2.mono (by omega)) hP hS (lv_sub hl [2, 3, 4, 5, 6] rfl)
set_option maxHeartbeats 4000000 in
set_option maxRecDepth 100000 in
theorem law_c1310 : LCase 1310 := by
  intro p l e s m below meth c D cs z A adK adV w oo b L xs Q x4 w1 w2 w3 d Os T M g H locs cells slots ls K hi1 hi2 hi3 hw1 hw2 hw3 hR h7 h9 hP hS hl hc1 hc2 next
  have hx := K.hx
  have hb := K.hb
  have ok := fc_set (d := d) hR w1 w2
  have k0 := c_L_set l D cs z A adK adV oo Os T g w1 w2 K.hd K.ho K.hlst hR.hn (okf_0 rfl ok)
  have k1 := c_X8_set l D cs w M w1 w2 K.hm hR.mv hR.h0
  have ow := okf_w g (by decide) ok
  unfold sL_set at k0
  obtain ⟨σ, hσ⟩ : ∃ y, (wr [1] (sX7_set Os T w1 w2) g) = y := ⟨_, rfl⟩
  obtain ⟨ρ, hρ⟩ : ∃ y, (sX8_set M w1 w2) = y := ⟨_, rfl⟩
  rw [hσ] at k0
  rw [hσ, hρ] at ow
  rw [hρ] at k1
  refine lv_aload_n hx hb d_law_1310 rfl (lv_at hl 1 rfl) ?_
  refine law_arg (v := 1) K hS (lv_sub hl [0, 4] rfl) d_law_1311 d_law_1312 d_law_1314 d_law_1315 d_law_1316 (by decide) hi1 hw1 ?_
  refine law_arg (v := 2) K hS (lv_sub hl [0, 4] rfl) d_law_1317 d_law_1318 d_law_1320 d_law_1321 d_law_1322 (by decide) hi2 hw2 ?_
  refine lv_aload_n hx hb d_law_1323 rfl (lv_at hl 3 rfl) ?_
  refine law_w K hP hS (vx_runSW (As := [.ref (z 0), .int w1, .int w2, .ref oo]) (rest := []) ⟨hx, hb, K.hml, K.hown, K.hts⟩ k0 (vx_cwSW 4 K.hts (good_SW w_ml_L_182 w_st_L_set w_in_L w_co_L_set) rfl rfl rfl hd_L_set ⟨Nat.le_of_ble_eq_true rfl, Nat.le_of_ble_eq_true rfl⟩) (lwe_S K hP hS _) rfl rfl hl.1 rfl (lv_room (Nat.le_of_ble_eq_true rfl)) d_law_1324 ⟨by show cells + 1 ≤ 601024; omega, by show slots + 6 ≤ 7293034; omega⟩) (fun H locs hP hS => ?_)
  refine lv_istore (lv' := (5, .int σ.1) :: lvs b z w oo x4) hx hb d_law_1327 hl (by decide) rfl (fun ls hl => ?_)
  refine lv_aload_n hx hb d_law_1329 rfl (lv_at hl 3 rfl) ?_
  refine law_arg (v := 1) K hS (lv_sub hl [1, 5] rfl) d_law_1330 d_law_1331 d_law_1333 d_law_1334 d_law_1335 (by decide) hi1 hw1 ?_
  refine law_arg (v := 2) K hS (lv_sub hl [1, 5] rfl) d_law_1336 d_law_1337 d_law_1339 d_law_1340 d_law_1341 (by decide) hi2 hw2 ?_
  refine law_m K hP hS (va_runV (As := [.int w1, .int w2]) (rest := []) ⟨hx, hb, K.hml, K.hown, K.hts⟩ k1 (cwV 2 K.hts (good_V w_ml_L_184 w_im_X8_set w_se_X8_set w_in_X8 w_co_X8_set) rfl rfl rfl ⟨rfl, hd_X8_set⟩ ⟨Nat.le_of_ble_eq_true rfl, Nat.le_of_ble_eq_true rfl⟩) (pe_V (ci := 8) (q0 := 0) hP.2.1 K.hE rfl rfl) rfl rfl hl.1 rfl (lv_room (Nat.le_of_ble_eq_true rfl)) d_law_1342 ⟨by show cells + 1 + 0 ≤ 601024; omega, by show slots + 6 + 0 ≤ 7293034; omega⟩) (fun H locs hP hS => ?_)
  refine lv_istore (lv' := (6, .int ρ.1) :: (5, .int σ.1) :: lvs b z w oo x4) hx hb d_law_1345 hl (by decide) rfl (fun ls hl => ?_)
  refine law_tail K hP hl d_law_1347 d_law_1348 d_law_1351 d_law_1353 d_law_1358 d_law_1360 d_law_1363 d_law_1364 d_law_1365 d_law_1366 d_law_1368 d_law_1369 d_law_1370 d_law_1375 (by decide) ⟨by omega, by omega⟩ ow.1 ow.2.1 ?_
  refine W.widen (k := cells + 2) (n := slots + 12) (by omega) (by omega) ?_
  exact next _ _ _ _ H locs ls (ow.2.2.mono (by omega)) hP hS (lv_sub hl [2, 3, 4, 5, 6] rfl)
set_option maxHeartbeats 4000000 in
set_option maxRecDepth 100000 in
theorem law_c1378 : LCase 1378 := by
  intro p l e s m below meth c D cs z A adK adV w oo b L xs Q x4 w1 w2 w3 d Os T M g H locs cells slots ls K hi1 hi2 hi3 hw1 hw2 hw3 hR h7 h9 hP hS hl hc1 hc2 next
  have hx := K.hx
  have hb := K.hb
  have ok := fc_undo (d := d) hR
  have k0 := c_L_undo l D cs z A adK adV oo Os T g K.hd K.ho K.hlst hR.hn (okf_0 rfl ok)
  have k1 := c_X8_undo l D cs w M K.hm hR.h0
  have ow := okf_w g (by decide) ok
  unfold sL_undo at k0
  obtain ⟨σ, hσ⟩ : ∃ y, (wr [2] (sX7_undo Os T) g) = y := ⟨_, rfl⟩
  obtain ⟨ρ, hρ⟩ : ∃ y, (sX8_undo M) = y := ⟨_, rfl⟩
  rw [hσ] at k0
  rw [hσ, hρ] at ow
  rw [hρ] at k1
  refine lv_aload_n hx hb d_law_1378 rfl (lv_at hl 1 rfl) ?_
  refine lv_aload_n hx hb d_law_1379 rfl (lv_at hl 3 rfl) ?_
  refine law_w K hP hS (vx_runSW (As := [.ref (z 0), .ref oo]) (rest := []) ⟨hx, hb, K.hml, K.hown, K.hts⟩ k0 (vx_cwSW 2 K.hts (good_SW w_ml_L_185 w_st_L_undo w_in_L w_co_L_undo) rfl rfl rfl hd_L_undo ⟨Nat.le_of_ble_eq_true rfl, Nat.le_of_ble_eq_true rfl⟩) (lwe_S K hP hS _) rfl rfl hl.1 rfl (lv_room (Nat.le_of_ble_eq_true rfl)) d_law_1380 ⟨by show cells + 1 ≤ 601024; omega, by show slots + 6 ≤ 7293034; omega⟩) (fun H locs hP hS => ?_)
  refine lv_istore (lv' := (5, .int σ.1) :: lvs b z w oo x4) hx hb d_law_1383 hl (by decide) rfl (fun ls hl => ?_)
  refine lv_aload_n hx hb d_law_1385 rfl (lv_at hl 3 rfl) ?_
  refine law_m K hP hS (va_runV (As := []) (rest := []) ⟨hx, hb, K.hml, K.hown, K.hts⟩ k1 (cwV 0 K.hts (good_V w_ml_L_187 w_im_X8_undo w_se_X8_undo w_in_X8 w_co_X8_undo) rfl rfl rfl ⟨rfl, hd_X8_undo⟩ ⟨Nat.le_of_ble_eq_true rfl, Nat.le_of_ble_eq_true rfl⟩) (pe_V (ci := 8) (q0 := 0) hP.2.1 K.hE rfl rfl) rfl rfl hl.1 rfl (lv_room (Nat.le_of_ble_eq_true rfl)) d_law_1386 ⟨by show cells + 1 + 0 ≤ 601024; omega, by show slots + 6 + 0 ≤ 7293034; omega⟩) (fun H locs hP hS => ?_)
  refine lv_istore (lv' := (6, .int ρ.1) :: (5, .int σ.1) :: lvs b z w oo x4) hx hb d_law_1389 hl (by decide) rfl (fun ls hl => ?_)
  refine law_tail K hP hl d_law_1391 d_law_1392 d_law_1395 d_law_1397 d_law_1402 d_law_1404 d_law_1407 d_law_1408 d_law_1409 d_law_1410 d_law_1412 d_law_1413 d_law_1414 d_law_1419 (by decide) ⟨by omega, by omega⟩ ow.1 ow.2.1 ?_
  refine W.widen (k := cells + 2) (n := slots + 12) (by omega) (by omega) ?_
  exact next _ _ _ _ H locs ls (ow.2.2.mono (by omega)) hP hS (lv_sub hl [2, 3, 4, 5, 6] rfl)
set_option maxHeartbeats 4000000 in
set_option maxRecDepth 100000 in
theorem law_c1422 : LCase 1422 := by
  intro p l e s m below meth c D cs z A adK adV w oo b L xs Q x4 w1 w2 w3 d Os T M g H locs cells slots ls K hi1 hi2 hi3 hw1 hw2 hw3 hR h7 h9 hP hS hl hc1 hc2 next
  have hx := K.hx
  have hb := K.hb
  have ok := rd_truePrint (d := d) hR w1 w2
  have k0 := c_L_truePrint l D cs z A adK adV oo Os T g w1 w2 K.hd K.ho K.hlst (okf_0 rfl ok)
  have k1 := c_X8_truePrint l D cs w M w1 w2 K.hm hR.mv
  have ow := okf_w g (by decide) ok
  unfold sL_truePrint at k0
  obtain ⟨σ, hσ⟩ : ∃ y, (wr [3] ((sX7_truePrint Os T w1 w2).1, (sX7_truePrint Os T w1 w2).2, (Os, T)) g) = y := ⟨_, rfl⟩
  obtain ⟨ρ, hρ⟩ : ∃ y, (sX8_truePrint M w1 w2) = y := ⟨_, rfl⟩
  rw [hσ] at k0
  rw [hσ, hρ] at ow
  rw [hρ] at k1
  refine lv_aload_n hx hb d_law_1422 rfl (lv_at hl 1 rfl) ?_
  refine law_arg (v := 1) K hS (lv_sub hl [0, 4] rfl) d_law_1423 d_law_1424 d_law_1426 d_law_1427 d_law_1428 (by decide) hi1 hw1 ?_
  refine law_arg (v := 2) K hS (lv_sub hl [0, 4] rfl) d_law_1429 d_law_1430 d_law_1432 d_law_1433 d_law_1434 (by decide) hi2 hw2 ?_
  refine lv_aload_n hx hb d_law_1435 rfl (lv_at hl 3 rfl) ?_
  refine law_w K hP hS (vx_runSW (As := [.ref (z 0), .int w1, .int w2, .ref oo]) (rest := []) ⟨hx, hb, K.hml, K.hown, K.hts⟩ k0 (vx_cwSW 4 K.hts (good_SW w_ml_L_188 w_st_L_truePrint w_in_L w_co_L_truePrint) rfl rfl rfl hd_L_truePrint ⟨Nat.le_of_ble_eq_true rfl, Nat.le_of_ble_eq_true rfl⟩) (lwe_S K hP hS _) rfl rfl hl.1 rfl (lv_room (Nat.le_of_ble_eq_true rfl)) d_law_1436 ⟨by show cells + 1 ≤ 601024; omega, by show slots + 6 ≤ 7293034; omega⟩) (fun H locs hP hS => ?_)
  refine lv_istore (lv' := (5, .int σ.1) :: lvs b z w oo x4) hx hb d_law_1439 hl (by decide) rfl (fun ls hl => ?_)
  refine lv_aload_n hx hb d_law_1441 rfl (lv_at hl 3 rfl) ?_
  refine law_arg (v := 1) K hS (lv_sub hl [1, 5] rfl) d_law_1442 d_law_1443 d_law_1445 d_law_1446 d_law_1447 (by decide) hi1 hw1 ?_
  refine law_arg (v := 2) K hS (lv_sub hl [1, 5] rfl) d_law_1448 d_law_1449 d_law_1451 d_law_1452 d_law_1453 (by decide) hi2 hw2 ?_
  refine law_m K hP hS (va_runV (As := [.int w1, .int w2]) (rest := []) ⟨hx, hb, K.hml, K.hown, K.hts⟩ k1 (cwV 2 K.hts (good_V w_ml_L_190 w_im_X8_truePrint w_se_X8_truePrint w_in_X8 w_co_X8_truePrint) rfl rfl rfl ⟨rfl, hd_X8_truePrint⟩ ⟨Nat.le_of_ble_eq_true rfl, Nat.le_of_ble_eq_true rfl⟩) (pe_V (ci := 8) (q0 := 0) hP.2.1 K.hE rfl rfl) rfl rfl hl.1 rfl (lv_room (Nat.le_of_ble_eq_true rfl)) d_law_1454 ⟨by show cells + 1 + 0 ≤ 601024; omega, by show slots + 6 + 0 ≤ 7293034; omega⟩) (fun H locs hP hS => ?_)
  refine lv_istore (lv' := (6, .int ρ.1) :: (5, .int σ.1) :: lvs b z w oo x4) hx hb d_law_1457 hl (by decide) rfl (fun ls hl => ?_)
  refine law_tail K hP hl d_law_1459 d_law_1460 d_law_1463 d_law_1465 d_law_1470 d_law_1472 d_law_1475 d_law_1476 d_law_1477 d_law_1478 d_law_1480 d_law_1481 d_law_1482 d_law_1487 (by decide) ⟨by omega, by omega⟩ ow.1 ow.2.1 ?_
  refine W.widen (k := cells + 2) (n := slots + 12) (by omega) (by omega) ?_
  exact next _ _ _ _ H locs ls (ow.2.2.mono (by omega)) hP hS (lv_sub hl [2, 3, 4, 5, 6] rfl)
set_option maxHeartbeats 4000000 in
set_option maxRecDepth 100000 in
theorem law_c1490 : LCase 1490 := by
  intro p l e s m below meth c D cs z A adK adV w oo b L xs Q x4 w1 w2 w3 d Os T M g H locs cells slots ls K hi1 hi2 hi3 hw1 hw2 hw3 hR h7 h9 hP hS hl hc1 hc2 next
  have hx := K.hx
  have hb := K.hb
  have ok := rd_ifRevised (d := d) hR (by omega) w1 w2 w3
  have k0 := c_L_ifRevised l D cs z A adK adV oo Os T g w1 w2 w3 K.hd K.ho K.hlst (okf_3 rfl ok)
  have k1 := c_X8_ifRevised l D cs w M w1 w2 w3 K.hm hR.mv
  have ow := okf_w g (by decide) ok
  unfold sL_ifRevised at k0
  obtain ⟨σ, hσ⟩ : ∃ y, (wr [3, 1, 2] ((sX7_ifRevised Os T w1 w2 w3).1, (sX7_ifRevised Os T w1 w2 w3).2, (Os, T)) g) = y := ⟨_, rfl⟩
  obtain ⟨ρ, hρ⟩ : ∃ y, (sX8_ifRevised M w1 w2 w3) = y := ⟨_, rfl⟩
  rw [hσ] at k0
  rw [hσ, hρ] at ow
  rw [hρ] at k1
  refine lv_aload_n hx hb d_law_1490 rfl (lv_at hl 1 rfl) ?_
  refine law_arg (v := 1) K hS (lv_sub hl [0, 4] rfl) d_law_1491 d_law_1492 d_law_1494 d_law_1495 d_law_1496 (by decide) hi1 hw1 ?_
  refine law_arg (v := 2) K hS (lv_sub hl [0, 4] rfl) d_law_1497 d_law_1498 d_law_1500 d_law_1501 d_law_1502 (by decide) hi2 hw2 ?_
  refine law_arg (v := 3) K hS (lv_sub hl [0, 4] rfl) d_law_1503 d_law_1504 d_law_1506 d_law_1507 d_law_1508 (by decide) hi3 hw3 ?_
  refine lv_aload_n hx hb d_law_1509 rfl (lv_at hl 3 rfl) ?_
  refine law_w K hP hS (vx_runSW (As := [.ref (z 0), .int w1, .int w2, .int w3, .ref oo]) (rest := []) ⟨hx, hb, K.hml, K.hown, K.hts⟩ k0 (vx_cwSW 5 K.hts (good_SW w_ml_L_191 w_st_L_ifRevised w_in_L w_co_L_ifRevised) rfl rfl rfl hd_L_ifRevised ⟨Nat.le_of_ble_eq_true rfl, Nat.le_of_ble_eq_true rfl⟩) (lwe_S K hP hS _) rfl rfl hl.1 rfl (lv_room (Nat.le_of_ble_eq_true rfl)) d_law_1510 ⟨by show cells + 2 ≤ 601024; omega, by show slots + 12 ≤ 7293034; omega⟩) (fun H locs hP hS => ?_)
  refine lv_istore (lv' := (5, .int σ.1) :: lvs b z w oo x4) hx hb d_law_1513 hl (by decide) rfl (fun ls hl => ?_)
  refine lv_aload_n hx hb d_law_1515 rfl (lv_at hl 3 rfl) ?_
  refine law_arg (v := 1) K hS (lv_sub hl [1, 5] rfl) d_law_1516 d_law_1517 d_law_1519 d_law_1520 d_law_1521 (by decide) hi1 hw1 ?_
  refine law_arg (v := 2) K hS (lv_sub hl [1, 5] rfl) d_law_1522 d_law_1523 d_law_1525 d_law_1526 d_law_1527 (by decide) hi2 hw2 ?_
  refine law_arg (v := 3) K hS (lv_sub hl [1, 5] rfl) d_law_1528 d_law_1529 d_law_1531 d_law_1532 d_law_1533 (by decide) hi3 hw3 ?_
  refine law_m K hP hS (va_runV (As := [.int w1, .int w2, .int w3]) (rest := []) ⟨hx, hb, K.hml, K.hown, K.hts⟩ k1 (cwV 3 K.hts (good_V w_ml_L_194 w_im_X8_ifRevised w_se_X8_ifRevised w_in_X8 w_co_X8_ifRevised) rfl rfl rfl ⟨rfl, hd_X8_ifRevised⟩ ⟨Nat.le_of_ble_eq_true rfl, Nat.le_of_ble_eq_true rfl⟩) (pe_V (ci := 8) (q0 := 0) hP.2.1 K.hE rfl rfl) rfl rfl hl.1 rfl (lv_room (Nat.le_of_ble_eq_true rfl)) d_law_1534 ⟨by show cells + 2 + 0 ≤ 601024; omega, by show slots + 12 + 0 ≤ 7293034; omega⟩) (fun H locs hP hS => ?_)
  refine lv_istore (lv' := (6, .int ρ.1) :: (5, .int σ.1) :: lvs b z w oo x4) hx hb d_law_1537 hl (by decide) rfl (fun ls hl => ?_)
  refine law_tail K hP hl d_law_1539 d_law_1540 d_law_1543 d_law_1545 d_law_1550 d_law_1552 d_law_1555 d_law_1556 d_law_1557 d_law_1558 d_law_1560 d_law_1561 d_law_1562 d_law_1567 (by decide) ⟨by omega, by omega⟩ ow.1 ow.2.1 ?_
  refine W.widen (k := cells + 2) (n := slots + 12) (by omega) (by omega) ?_
  exact next _ _ _ _ H locs ls (ow.2.2.mono (by omega)) hP hS (lv_sub hl [2, 3, 4, 5, 6] rfl)
