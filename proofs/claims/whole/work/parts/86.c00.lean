/-! the cases of the law's loop: append, clearText, errorPosition, load, about, sheet, field, drawnIn -/
set_option maxHeartbeats 4000000 in
set_option maxRecDepth 100000 in
theorem law_c180 : LCase 180 := by
  intro p l e s m below meth c D cs z A adK adV w oo b L xs Q x4 w1 w2 w3 d Os T M g H locs cells slots ls K hi1 hi2 hi3 hw1 hw2 hw3 hR h7 h9 hP hS hl hc1 hc2 next
  have hx := K.hx
  have hb := K.hb
  have ok := fc_append (d := d) hR w1
  have k0 := c_L_append l D cs z A adK adV oo Os T g w1 K.hd K.ho K.hlst (okf_2 rfl ok)
  have k1 := c_X8_append l D cs w M w1 K.hm hR.hl0
  have ow := okf_w g (by decide) ok
  unfold sL_append at k0
  obtain ⟨σ, hσ⟩ : ∃ y, (wr [1, 2] (sX7_append Os T w1) g) = y := ⟨_, rfl⟩
  obtain ⟨ρ, hρ⟩ : ∃ y, (sX8_append M w1) = y := ⟨_, rfl⟩
  rw [hσ] at k0
  rw [hσ, hρ] at ow
  rw [hρ] at k1
  refine lv_aload_n hx hb d_law_180 rfl (lv_at hl 1 rfl) ?_
  refine law_arg (v := 1) K hS (lv_sub hl [0, 4] rfl) d_law_181 d_law_182 d_law_184 d_law_185 d_law_186 (by decide) hi1 hw1 ?_
  refine lv_aload_n hx hb d_law_187 rfl (lv_at hl 3 rfl) ?_
  refine law_w K hP hS (vx_runSW (As := [.ref (z 0), .int w1, .ref oo]) (rest := []) ⟨hx, hb, K.hml, K.hown, K.hts⟩ k0 (vx_cwSW 3 K.hts (good_SW w_ml_L_112 w_st_L_append w_in_L w_co_L_append) rfl rfl rfl hd_L_append ⟨Nat.le_of_ble_eq_true rfl, Nat.le_of_ble_eq_true rfl⟩) (lwe_S K hP hS _) rfl rfl hl.1 rfl (lv_room (Nat.le_of_ble_eq_true rfl)) d_law_188 ⟨by show cells + 1 ≤ 601024; omega, by show slots + 6 ≤ 7293034; omega⟩) (fun H locs hP hS => ?_)
  refine lv_istore (lv' := (5, .int σ.1) :: lvs b z w oo x4) hx hb d_law_191 hl (by decide) rfl (fun ls hl => ?_)
  refine lv_aload_n hx hb d_law_193 rfl (lv_at hl 3 rfl) ?_
  refine law_arg (v := 1) K hS (lv_sub hl [1, 5] rfl) d_law_194 d_law_195 d_law_197 d_law_198 d_law_199 (by decide) hi1 hw1 ?_
  refine law_m K hP hS (va_runV (As := [.int w1]) (rest := []) ⟨hx, hb, K.hml, K.hown, K.hts⟩ k1 (cwV 1 K.hts (good_V w_ml_L_117 w_im_X8_append w_se_X8_append w_in_X8 w_co_X8_append) rfl rfl rfl ⟨rfl, hd_X8_append⟩ ⟨Nat.le_of_ble_eq_true rfl, Nat.le_of_ble_eq_true rfl⟩) (pe_V (ci := 8) (q0 := 0) hP.2.1 K.hE rfl rfl) rfl rfl hl.1 rfl (lv_room (Nat.le_of_ble_eq_true rfl)) d_law_200 ⟨by show cells + 1 + 0 ≤ 601024; omega, by show slots + 6 + 0 ≤ 7293034; omega⟩) (fun H locs hP hS => ?_)
  refine lv_istore (lv' := (6, .int ρ.1) :: (5, .int σ.1) :: lvs b z w oo x4) hx hb d_law_203 hl (by decide) rfl (fun ls hl => ?_)
  refine law_tail K hP hl d_law_205 d_law_206 d_law_209 d_law_211 d_law_216 d_law_218 d_law_221 d_law_222 d_law_223 d_law_224 d_law_226 d_law_227 d_law_228 d_law_233 (by decide) ⟨by omega, by omega⟩ ow.1 ow.2.1 ?_
  refine W.widen (k := cells + 2) (n := slots + 12) (by omega) (by omega) ?_
  exact next _ _ _ _ H locs ls (ow.2.2.mono (by omega)) hP hS (lv_sub hl [2, 3, 4, 5, 6] rfl)
set_option maxHeartbeats 4000000 in
set_option maxRecDepth 100000 in
theorem law_c236 : LCase 236 := by
  intro p l e s m below meth c D cs z A adK adV w oo b L xs Q x4 w1 w2 w3 d Os T M g H locs cells slots ls K hi1 hi2 hi3 hw1 hw2 hw3 hR h7 h9 hP hS hl hc1 hc2 next
  have hx := K.hx
  have hb := K.hb
  have ow := fc_clearText (d := d) hR
  have k0 := c_X7_clearText l D cs z A adK adV Os T K.hd
  have k1 := c_X8_clearText l D cs w M K.hm
  obtain ⟨σ, hσ⟩ : ∃ y, sX7_clearText Os T = y := ⟨_, rfl⟩
  obtain ⟨ρ, hρ⟩ : ∃ y, sX8_clearText M = y := ⟨_, rfl⟩
  rw [hσ] at k0
  rw [hσ, hρ] at ow
  rw [hρ] at k1
  refine lv_aload_n hx hb d_law_236 rfl (lv_at hl 1 rfl) ?_
  refine law_t K hP hS (va_runV (As := []) (rest := []) ⟨hx, hb, K.hml, K.hown, K.hts⟩ k0 (cwV 0 K.hts (good_V w_ml_L_121 w_im_X7_clearText w_se_X7_clearText w_in_X7 w_co_X7_clearText) rfl rfl rfl ⟨rfl, hd_X7_clearText⟩ ⟨Nat.le_of_ble_eq_true rfl, Nat.le_of_ble_eq_true rfl⟩) (te_V (C := RX7) (T9 := TX7) (N := 5) (ci := 7) (q0 := 0) hP.1 K.hE K.hXE (K.hSt hS) rfl rfl) rfl rfl hl.1 rfl (lv_room (Nat.le_of_ble_eq_true rfl)) d_law_237 ⟨by show cells + 0 ≤ 601024; omega, by show slots + 0 ≤ 7293034; omega⟩) (fun H locs hP hS => ?_)
  refine lv_aload_n hx hb d_law_240 rfl (lv_at hl 2 rfl) ?_
  refine law_m K hP hS (va_runV (As := []) (rest := [.int σ.1]) ⟨hx, hb, K.hml, K.hown, K.hts⟩ k1 (cwV 0 K.hts (good_V w_ml_L_124 w_im_X8_clearText w_se_X8_clearText w_in_X8 w_co_X8_clearText) rfl rfl rfl ⟨rfl, hd_X8_clearText⟩ ⟨Nat.le_of_ble_eq_true rfl, Nat.le_of_ble_eq_true rfl⟩) (pe_V (ci := 8) (q0 := 0) hP.2.1 K.hE rfl rfl) rfl rfl hl.1 rfl (lv_room (Nat.le_of_ble_eq_true rfl)) d_law_241 ⟨by show cells + 0 ≤ 601024; omega, by show slots + 0 ≤ 7293034; omega⟩) (fun H locs hP hS => ?_)
  refine lv_icmp_eq (tgt := 2075) hx hb d_law_244 (by decide) (fun _ => ?_) (fun c9 => absurd ow.1 c9)
  refine W.widen (k := cells + 2) (n := slots + 12) (by omega) (by omega) ?_
  exact next _ _ _ _ H locs ls (ow.2.mono (by omega)) hP hS hl
set_option maxHeartbeats 4000000 in
set_option maxRecDepth 100000 in
theorem law_c249 : LCase 249 := by
  intro p l e s m below meth c D cs z A adK adV w oo b L xs Q x4 w1 w2 w3 d Os T M g H locs cells slots ls K hi1 hi2 hi3 hw1 hw2 hw3 hR h7 h9 hP hS hl hc1 hc2 next
  have hx := K.hx
  have hb := K.hb
  have ow := fc_errorPosition (d := d) hR
  have k0 := c_X7_errorPosition l D cs z A adK adV Os T K.hd
  have k1 := c_X8_errorPosition l D cs w M K.hm hR.hln
  obtain ⟨σ, hσ⟩ : ∃ y, sX7_errorPosition Os T = y := ⟨_, rfl⟩
  obtain ⟨ρ, hρ⟩ : ∃ y, sX8_errorPosition M = y := ⟨_, rfl⟩
  rw [hσ] at k0
  rw [hσ, hρ] at ow
  rw [hρ] at k1
  refine lv_aload_n hx hb d_law_249 rfl (lv_at hl 1 rfl) ?_
  refine law_t K hP hS (va_runV (As := []) (rest := []) ⟨hx, hb, K.hml, K.hown, K.hts⟩ k0 (cwV 0 K.hts (good_V w_ml_L_125 w_im_X7_errorPosition w_se_X7_errorPosition w_in_X7 w_co_X7_errorPosition) rfl rfl rfl ⟨rfl, hd_X7_errorPosition⟩ ⟨Nat.le_of_ble_eq_true rfl, Nat.le_of_ble_eq_true rfl⟩) (te_V (C := RX7) (T9 := TX7) (N := 5) (ci := 7) (q0 := 0) hP.1 K.hE K.hXE (K.hSt hS) rfl rfl) rfl rfl hl.1 rfl (lv_room (Nat.le_of_ble_eq_true rfl)) d_law_250 ⟨by show cells + 0 ≤ 601024; omega, by show slots + 0 ≤ 7293034; omega⟩) (fun H locs hP hS => ?_)
  refine lv_aload_n hx hb d_law_253 rfl (lv_at hl 2 rfl) ?_
  refine law_m K hP hS (va_runV (As := []) (rest := [.int σ.1]) ⟨hx, hb, K.hml, K.hown, K.hts⟩ k1 (cwV 0 K.hts (good_V w_ml_L_128 w_im_X8_errorPosition w_se_X8_errorPosition w_in_X8 w_co_X8_errorPosition) rfl rfl rfl ⟨rfl, hd_X8_errorPosition⟩ ⟨Nat.le_of_ble_eq_true rfl, Nat.le_of_ble_eq_true rfl⟩) (pe_V (ci := 8) (q0 := 0) hP.2.1 K.hE rfl rfl) rfl rfl hl.1 rfl (lv_room (Nat.le_of_ble_eq_true rfl)) d_law_254 ⟨by show cells + 0 ≤ 601024; omega, by show slots + 0 ≤ 7293034; omega⟩) (fun H locs hP hS => ?_)
  refine lv_icmp_eq (tgt := 2075) hx hb d_law_257 (by decide) (fun _ => ?_) (fun c9 => absurd ow.1 c9)
  refine W.widen (k := cells + 2) (n := slots + 12) (by omega) (by omega) ?_
  exact next _ _ _ _ H locs ls (ow.2.mono (by omega)) hP hS hl
set_option maxHeartbeats 4000000 in
set_option maxRecDepth 100000 in
theorem law_c262 : LCase 262 := by
  intro p l e s m below meth c D cs z A adK adV w oo b L xs Q x4 w1 w2 w3 d Os T M g H locs cells slots ls K hi1 hi2 hi3 hw1 hw2 hw3 hR h7 h9 hP hS hl hc1 hc2 next
  have hx := K.hx
  have hb := K.hb
  have ok := fc_load (d := d) hR (by omega)
  have k0 := c_L_load l D cs z A adK adV oo Os T g K.hd K.ho K.hlst (okf_0 rfl ok)
  have k1 := c_X8_load l D cs w M K.hm hR.hln
  have ow := okf_w g (by decide) ok
  unfold sL_load at k0
  obtain ⟨σ, hσ⟩ : ∃ y, (wr [2] (sX7_load Os T) g) = y := ⟨_, rfl⟩
  obtain ⟨ρ, hρ⟩ : ∃ y, (sX8_load M) = y := ⟨_, rfl⟩
  rw [hσ] at k0
  rw [hσ, hρ] at ow
  rw [hρ] at k1
  refine lv_aload_n hx hb d_law_262 rfl (lv_at hl 1 rfl) ?_
  refine lv_aload_n hx hb d_law_263 rfl (lv_at hl 3 rfl) ?_
  refine law_w K hP hS (vx_runSW (As := [.ref (z 0), .ref oo]) (rest := []) ⟨hx, hb, K.hml, K.hown, K.hts⟩ k0 (vx_cwSW 2 K.hts (good_SW w_ml_L_129 w_st_L_load w_in_L w_co_L_load) rfl rfl rfl hd_L_load ⟨Nat.le_of_ble_eq_true rfl, Nat.le_of_ble_eq_true rfl⟩) (lwe_S K hP hS _) rfl rfl hl.1 rfl (lv_room (Nat.le_of_ble_eq_true rfl)) d_law_264 ⟨by show cells + 1 ≤ 601024; omega, by show slots + 6 ≤ 7293034; omega⟩) (fun H locs hP hS => ?_)
  refine lv_istore (lv' := (5, .int σ.1) :: lvs b z w oo x4) hx hb d_law_267 hl (by decide) rfl (fun ls hl => ?_)
  refine lv_aload_n hx hb d_law_269 rfl (lv_at hl 3 rfl) ?_
  refine law_m K hP hS (va_runV (As := []) (rest := []) ⟨hx, hb, K.hml, K.hown, K.hts⟩ k1 (cwV 0 K.hts (good_V w_ml_L_132 w_im_X8_load w_se_X8_load w_in_X8 w_co_X8_load) rfl rfl rfl ⟨rfl, hd_X8_load⟩ ⟨Nat.le_of_ble_eq_true rfl, Nat.le_of_ble_eq_true rfl⟩) (pe_V (ci := 8) (q0 := 0) hP.2.1 K.hE rfl rfl) rfl rfl hl.1 rfl (lv_room (Nat.le_of_ble_eq_true rfl)) d_law_270 ⟨by show cells + 1 + 0 ≤ 601024; omega, by show slots + 6 + 0 ≤ 7293034; omega⟩) (fun H locs hP hS => ?_)
  refine lv_istore (lv' := (6, .int ρ.1) :: (5, .int σ.1) :: lvs b z w oo x4) hx hb d_law_273 hl (by decide) rfl (fun ls hl => ?_)
  refine law_tail K hP hl d_law_275 d_law_276 d_law_279 d_law_281 d_law_286 d_law_288 d_law_291 d_law_292 d_law_293 d_law_294 d_law_296 d_law_297 d_law_298 d_law_303 (by decide) ⟨by omega, by omega⟩ ow.1 ow.2.1 ?_
  refine W.widen (k := cells + 2) (n := slots + 12) (by omega) (by omega) ?_
  exact next _ _ _ _ H locs ls (ow.2.2.mono (by omega)) hP hS (lv_sub hl [2, 3, 4, 5, 6] rfl)
set_option maxHeartbeats 4000000 in
set_option maxRecDepth 100000 in
theorem law_c306 : LCase 306 := by
  intro p l e s m below meth c D cs z A adK adV w oo b L xs Q x4 w1 w2 w3 d Os T M g H locs cells slots ls K hi1 hi2 hi3 hw1 hw2 hw3 hR h7 h9 hP hS hl hc1 hc2 next
  have hx := K.hx
  have hb := K.hb
  have ok := rd_about (d := d) hR (by omega) w1
  have k0 := c_L_about l D cs z A adK adV oo Os T g w1 K.hd K.ho K.hlst (okf_0 rfl ok)
  have k1 := c_X8_about l D cs w M w1 K.hm hR.mv
  have ow := okf_w g (by decide) ok
  unfold sL_about at k0
  obtain ⟨σ, hσ⟩ : ∃ y, (wr [1] ((sX7_about Os T w1).1, (sX7_about Os T w1).2, (Os, T)) g) = y := ⟨_, rfl⟩
  obtain ⟨ρ, hρ⟩ : ∃ y, (sX8_about M w1) = y := ⟨_, rfl⟩
  rw [hσ] at k0
  rw [hσ, hρ] at ow
  rw [hρ] at k1
  refine lv_aload_n hx hb d_law_306 rfl (lv_at hl 1 rfl) ?_
  refine law_arg (v := 1) K hS (lv_sub hl [0, 4] rfl) d_law_307 d_law_308 d_law_310 d_law_311 d_law_312 (by decide) hi1 hw1 ?_
  refine lv_aload_n hx hb d_law_313 rfl (lv_at hl 3 rfl) ?_
  refine law_w K hP hS (vx_runSW (As := [.ref (z 0), .int w1, .ref oo]) (rest := []) ⟨hx, hb, K.hml, K.hown, K.hts⟩ k0 (vx_cwSW 3 K.hts (good_SW w_ml_L_133 w_st_L_about w_in_L w_co_L_about) rfl rfl rfl hd_L_about ⟨Nat.le_of_ble_eq_true rfl, Nat.le_of_ble_eq_true rfl⟩) (lwe_S K hP hS _) rfl rfl hl.1 rfl (lv_room (Nat.le_of_ble_eq_true rfl)) d_law_314 ⟨by show cells + 1 ≤ 601024; omega, by show slots + 6 ≤ 7293034; omega⟩) (fun H locs hP hS => ?_)
  refine lv_istore (lv' := (5, .int σ.1) :: lvs b z w oo x4) hx hb d_law_317 hl (by decide) rfl (fun ls hl => ?_)
  refine lv_aload_n hx hb d_law_319 rfl (lv_at hl 3 rfl) ?_
  refine law_arg (v := 1) K hS (lv_sub hl [1, 5] rfl) d_law_320 d_law_321 d_law_323 d_law_324 d_law_325 (by decide) hi1 hw1 ?_
  refine law_m K hP hS (va_runV (As := [.int w1]) (rest := []) ⟨hx, hb, K.hml, K.hown, K.hts⟩ k1 (cwV 1 K.hts (good_V w_ml_L_135 w_im_X8_about w_se_X8_about w_in_X8 w_co_X8_about) rfl rfl rfl ⟨rfl, hd_X8_about⟩ ⟨Nat.le_of_ble_eq_true rfl, Nat.le_of_ble_eq_true rfl⟩) (pe_V (ci := 8) (q0 := 0) hP.2.1 K.hE rfl rfl) rfl rfl hl.1 rfl (lv_room (Nat.le_of_ble_eq_true rfl)) d_law_326 ⟨by show cells + 1 + 0 ≤ 601024; omega, by show slots + 6 + 0 ≤ 7293034; omega⟩) (fun H locs hP hS => ?_)
  refine lv_istore (lv' := (6, .int ρ.1) :: (5, .int σ.1) :: lvs b z w oo x4) hx hb d_law_329 hl (by decide) rfl (fun ls hl => ?_)
  refine law_tail K hP hl d_law_331 d_law_332 d_law_335 d_law_337 d_law_342 d_law_344 d_law_347 d_law_348 d_law_349 d_law_350 d_law_352 d_law_353 d_law_354 d_law_359 (by decide) ⟨by omega, by omega⟩ ow.1 ow.2.1 ?_
  refine W.widen (k := cells + 2) (n := slots + 12) (by omega) (by omega) ?_
  exact next _ _ _ _ H locs ls (ow.2.2.mono (by omega)) hP hS (lv_sub hl [2, 3, 4, 5, 6] rfl)
set_option maxHeartbeats 4000000 in
set_option maxRecDepth 100000 in
theorem law_c362 : LCase 362 := by
  intro p l e s m below meth c D cs z A adK adV w oo b L xs Q x4 w1 w2 w3 d Os T M g H locs cells slots ls K hi1 hi2 hi3 hw1 hw2 hw3 hR h7 h9 hP hS hl hc1 hc2 next
  have hx := K.hx
  have hb := K.hb
  have ok := rd_sheet (d := d) hR w1 w2
  have k0 := c_L_sheet l D cs z A adK adV oo Os T g w1 w2 K.hd K.ho K.hlst (okf_2 rfl ok)
  have k1 := c_X8_sheet l D cs w M w1 w2 K.hm hR.mv
  have ow := okf_w g (by decide) ok
  unfold sL_sheet at k0
  obtain ⟨σ, hσ⟩ : ∃ y, (wr [3, 1] ((sX7_sheet Os T w1 w2).1, (sX7_sheet Os T w1 w2).2, (Os, T)) g) = y := ⟨_, rfl⟩
  obtain ⟨ρ, hρ⟩ : ∃ y, (sX8_sheet M w1 w2) = y := ⟨_, rfl⟩
  rw [hσ] at k0
  rw [hσ, hρ] at ow
  rw [hρ] at k1
  refine lv_aload_n hx hb d_law_362 rfl (lv_at hl 1 rfl) ?_
  refine law_arg (v := 1) K hS (lv_sub hl [0, 4] rfl) d_law_363 d_law_364 d_law_366 d_law_367 d_law_368 (by decide) hi1 hw1 ?_
  refine law_arg (v := 2) K hS (lv_sub hl [0, 4] rfl) d_law_369 d_law_370 d_law_372 d_law_373 d_law_374 (by decide) hi2 hw2 ?_
  refine lv_aload_n hx hb d_law_375 rfl (lv_at hl 3 rfl) ?_
  refine law_w K hP hS (vx_runSW (As := [.ref (z 0), .int w1, .int w2, .ref oo]) (rest := []) ⟨hx, hb, K.hml, K.hown, K.hts⟩ k0 (vx_cwSW 4 K.hts (good_SW w_ml_L_136 w_st_L_sheet w_in_L w_co_L_sheet) rfl rfl rfl hd_L_sheet ⟨Nat.le_of_ble_eq_true rfl, Nat.le_of_ble_eq_true rfl⟩) (lwe_S K hP hS _) rfl rfl hl.1 rfl (lv_room (Nat.le_of_ble_eq_true rfl)) d_law_376 ⟨by show cells + 2 ≤ 601024; omega, by show slots + 12 ≤ 7293034; omega⟩) (fun H locs hP hS => ?_)
  refine lv_istore (lv' := (5, .int σ.1) :: lvs b z w oo x4) hx hb d_law_379 hl (by decide) rfl (fun ls hl => ?_)
  refine lv_aload_n hx hb d_law_381 rfl (lv_at hl 3 rfl) ?_
  refine law_arg (v := 1) K hS (lv_sub hl [1, 5] rfl) d_law_382 d_law_383 d_law_385 d_law_386 d_law_387 (by decide) hi1 hw1 ?_
  refine law_arg (v := 2) K hS (lv_sub hl [1, 5] rfl) d_law_388 d_law_389 d_law_391 d_law_392 d_law_393 (by decide) hi2 hw2 ?_
  refine law_m K hP hS (va_runV (As := [.int w1, .int w2]) (rest := []) ⟨hx, hb, K.hml, K.hown, K.hts⟩ k1 (cwV 2 K.hts (good_V w_ml_L_139 w_im_X8_sheet w_se_X8_sheet w_in_X8 w_co_X8_sheet) rfl rfl rfl ⟨rfl, hd_X8_sheet⟩ ⟨Nat.le_of_ble_eq_true rfl, Nat.le_of_ble_eq_true rfl⟩) (pe_V (ci := 8) (q0 := 0) hP.2.1 K.hE rfl rfl) rfl rfl hl.1 rfl (lv_room (Nat.le_of_ble_eq_true rfl)) d_law_394 ⟨by show cells + 2 + 0 ≤ 601024; omega, by show slots + 12 + 0 ≤ 7293034; omega⟩) (fun H locs hP hS => ?_)
  refine lv_istore (lv' := (6, .int ρ.1) :: (5, .int σ.1) :: lvs b z w oo x4) hx hb d_law_397 hl (by decide) rfl (fun ls hl => ?_)
  refine law_tail K hP hl d_law_399 d_law_400 d_law_403 d_law_405 d_law_410 d_law_412 d_law_415 d_law_416 d_law_417 d_law_418 d_law_420 d_law_421 d_law_422 d_law_427 (by decide) ⟨by omega, by omega⟩ ow.1 ow.2.1 ?_
  refine W.widen (k := cells + 2) (n := slots + 12) (by omega) (by omega) ?_
  exact next _ _ _ _ H locs ls (ow.2.2.mono (by omega)) hP hS (lv_sub hl [2, 3, 4, 5, 6] rfl)
set_option maxHeartbeats 4000000 in
set_option maxRecDepth 100000 in
theorem law_c430 : LCase 430 := by
  intro p l e s m below meth c D cs z A adK adV w oo b L xs Q x4 w1 w2 w3 d Os T M g H locs cells slots ls K hi1 hi2 hi3 hw1 hw2 hw3 hR h7 h9 hP hS hl hc1 hc2 next
  have hx := K.hx
  have hb := K.hb
  have ok := rd_field (d := d) hR w1 w2
  have k0 := c_L_field l D cs z A adK adV oo Os T g w1 w2 K.hd K.ho K.hlst (okf_0 rfl ok)
  have k1 := c_X8_field l D cs w M w1 w2 K.hm hR.mv
  have ow := okf_w g (by decide) ok
  unfold sL_field at k0
  obtain ⟨σ, hσ⟩ : ∃ y, (wr [3] ((sX7_field Os T w1 w2).1, (sX7_field Os T w1 w2).2, (Os, T)) g) = y := ⟨_, rfl⟩
  obtain ⟨ρ, hρ⟩ : ∃ y, (sX8_field M w1 w2) = y := ⟨_, rfl⟩
  rw [hσ] at k0
  rw [hσ, hρ] at ow
  rw [hρ] at k1
  refine lv_aload_n hx hb d_law_430 rfl (lv_at hl 1 rfl) ?_
  refine law_arg (v := 1) K hS (lv_sub hl [0, 4] rfl) d_law_431 d_law_432 d_law_434 d_law_435 d_law_436 (by decide) hi1 hw1 ?_
  refine law_arg (v := 2) K hS (lv_sub hl [0, 4] rfl) d_law_437 d_law_438 d_law_440 d_law_441 d_law_442 (by decide) hi2 hw2 ?_
  refine lv_aload_n hx hb d_law_443 rfl (lv_at hl 3 rfl) ?_
  refine law_w K hP hS (vx_runSW (As := [.ref (z 0), .int w1, .int w2, .ref oo]) (rest := []) ⟨hx, hb, K.hml, K.hown, K.hts⟩ k0 (vx_cwSW 4 K.hts (good_SW w_ml_L_140 w_st_L_field w_in_L w_co_L_field) rfl rfl rfl hd_L_field ⟨Nat.le_of_ble_eq_true rfl, Nat.le_of_ble_eq_true rfl⟩) (lwe_S K hP hS _) rfl rfl hl.1 rfl (lv_room (Nat.le_of_ble_eq_true rfl)) d_law_444 ⟨by show cells + 2 ≤ 601024; omega, by show slots + 12 ≤ 7293034; omega⟩) (fun H locs hP hS => ?_)
  refine lv_istore (lv' := (5, .int σ.1) :: lvs b z w oo x4) hx hb d_law_447 hl (by decide) rfl (fun ls hl => ?_)
  refine lv_aload_n hx hb d_law_449 rfl (lv_at hl 3 rfl) ?_
  refine law_arg (v := 1) K hS (lv_sub hl [1, 5] rfl) d_law_450 d_law_451 d_law_453 d_law_454 d_law_455 (by decide) hi1 hw1 ?_
  refine law_arg (v := 2) K hS (lv_sub hl [1, 5] rfl) d_law_456 d_law_457 d_law_459 d_law_460 d_law_461 (by decide) hi2 hw2 ?_
  refine law_m K hP hS (va_runV (As := [.int w1, .int w2]) (rest := []) ⟨hx, hb, K.hml, K.hown, K.hts⟩ k1 (cwV 2 K.hts (good_V w_ml_L_142 w_im_X8_field w_se_X8_field w_in_X8 w_co_X8_field) rfl rfl rfl ⟨rfl, hd_X8_field⟩ ⟨Nat.le_of_ble_eq_true rfl, Nat.le_of_ble_eq_true rfl⟩) (pe_V (ci := 8) (q0 := 0) hP.2.1 K.hE rfl rfl) rfl rfl hl.1 rfl (lv_room (Nat.le_of_ble_eq_true rfl)) d_law_462 ⟨by show cells + 2 + 0 ≤ 601024; omega, by show slots + 12 + 0 ≤ 7293034; omega⟩) (fun H locs hP hS => ?_)
  refine lv_istore (lv' := (6, .int ρ.1) :: (5, .int σ.1) :: lvs b z w oo x4) hx hb d_law_465 hl (by decide) rfl (fun ls hl => ?_)
  refine law_tail K hP hl d_law_467 d_law_468 d_law_471 d_law_473 d_law_478 d_law_480 d_law_483 d_law_484 d_law_485 d_law_486 d_law_488 d_law_489 d_law_490 d_law_495 (by decide) ⟨by omega, by omega⟩ ow.1 ow.2.1 ?_
  refine W.widen (k := cells + 2) (n := slots + 12) (by omega) (by omega) ?_
  exact next _ _ _ _ H locs ls (ow.2.2.mono (by omega)) hP hS (lv_sub hl [2, 3, 4, 5, 6] rfl)
set_option maxHeartbeats 4000000 in
set_option maxRecDepth 100000 in
theorem law_c498 : LCase 498 := by
  intro p l e s m below meth c D cs z A adK adV w oo b L xs Q x4 w1 w2 w3 d Os T M g H locs cells slots ls K hi1 hi2 hi3 hw1 hw2 hw3 hR h7 h9 hP hS hl hc1 hc2 next
  have hx := K.hx
  have hb := K.hb
  have ok := rd_drawnIn (d := d) hR w1 w2
  have k0 := c_L_drawnIn l D cs z A adK adV oo Os T g w1 w2 K.hd K.ho K.hlst (okf_2 rfl ok)
  have k1 := c_X8_drawnIn l D cs w M w1 w2 K.hm hR.mv
  have ow := okf_w g (by decide) ok
  unfold sL_drawnIn at k0
  obtain ⟨σ, hσ⟩ : ∃ y, (wr [3, 1] ((sX7_drawnIn Os T w1 w2).1, (sX7_drawnIn Os T w1 w2).2, (Os, T)) g) = y := ⟨_, rfl⟩
  obtain ⟨ρ, hρ⟩ : ∃ y, (sX8_drawnIn M w1 w2) = y := ⟨_, rfl⟩
  rw [hσ] at k0
  rw [hσ, hρ] at ow
  rw [hρ] at k1
  refine lv_aload_n hx hb d_law_498 rfl (lv_at hl 1 rfl) ?_
  refine law_arg (v := 1) K hS (lv_sub hl [0, 4] rfl) d_law_499 d_law_500 d_law_502 d_law_503 d_law_504 (by decide) hi1 hw1 ?_
  refine law_arg (v := 2) K hS (lv_sub hl [0, 4] rfl) d_law_505 d_law_506 d_law_508 d_law_509 d_law_510 (by decide) hi2 hw2 ?_
  refine lv_aload_n hx hb d_law_511 rfl (lv_at hl 3 rfl) ?_
  refine law_w K hP hS (vx_runSW (As := [.ref (z 0), .int w1, .int w2, .ref oo]) (rest := []) ⟨hx, hb, K.hml, K.hown, K.hts⟩ k0 (vx_cwSW 4 K.hts (good_SW w_ml_L_143 w_st_L_drawnIn w_in_L w_co_L_drawnIn) rfl rfl rfl hd_L_drawnIn ⟨Nat.le_of_ble_eq_true rfl, Nat.le_of_ble_eq_true rfl⟩) (lwe_S K hP hS _) rfl rfl hl.1 rfl (lv_room (Nat.le_of_ble_eq_true rfl)) d_law_512 ⟨by show cells + 2 ≤ 601024; omega, by show slots + 12 ≤ 7293034; omega⟩) (fun H locs hP hS => ?_)
  refine lv_istore (lv' := (5, .int σ.1) :: lvs b z w oo x4) hx hb d_law_515 hl (by decide) rfl (fun ls hl => ?_)
  refine lv_aload_n hx hb d_law_517 rfl (lv_at hl 3 rfl) ?_
  refine law_arg (v := 1) K hS (lv_sub hl [1, 5] rfl) d_law_518 d_law_519 d_law_521 d_law_522 d_law_523 (by decide) hi1 hw1 ?_
  refine law_arg (v := 2) K hS (lv_sub hl [1, 5] rfl) d_law_524 d_law_525 d_law_527 d_law_528 d_law_529 (by decide) hi2 hw2 ?_
  refine law_m K hP hS (va_runV (As := [.int w1, .int w2]) (rest := []) ⟨hx, hb, K.hml, K.hown, K.hts⟩ k1 (cwV 2 K.hts (good_V w_ml_L_145 w_im_X8_drawnIn w_se_X8_drawnIn w_in_X8 w_co_X8_drawnIn) rfl rfl rfl ⟨rfl, hd_X8_drawnIn⟩ ⟨Nat.le_of_ble_eq_true rfl, Nat.le_of_ble_eq_true rfl⟩) (pe_V (ci := 8) (q0 := 0) hP.2.1 K.hE rfl rfl) rfl rfl hl.1 rfl (lv_room (Nat.le_of_ble_eq_true rfl)) d_law_530 ⟨by show cells + 2 + 0 ≤ 601024; omega, by show slots + 12 + 0 ≤ 7293034; omega⟩) (fun H locs hP hS => ?_)
  refine lv_istore (lv' := (6, .int ρ.1) :: (5, .int σ.1) :: lvs b z w oo x4) hx hb d_law_533 hl (by decide) rfl (fun ls hl => ?_)
  refine law_tail K hP hl d_law_535 d_law_536 d_law_539 d_law_541 d_law_546 d_law_548 d_law_551 d_law_552 d_law_553 d_law_554 d_law_556 d_law_557 d_law_558 d_law_563 (by decide) ⟨by omega, by omega⟩ ow.1 ow.2.1 ?_
  refine W.widen (k := cells + 2) (n := slots + 12) (by omega) (by omega) ?_
  exact next _ _ _ _ H locs ls (ow.2.2.mono (by omega)) hP hS (lv_sub hl [2, 3, 4, 5, 6] rfl)
