/-! the cases of the law's loop: append -/
set_option maxHeartbeats 4000000 in
set_option maxRecDepth 100000 in
theorem law_c180 : LCase 180 := by
  intro p l e s m below meth c D cs z A adK adV w oo b L xs Q x4 w1 w2 w3 d Os T M g H locs cells slots ls K hi1 hi2 hi3 hw1 hw2 hw3 hR h7 h9 hP hS hl hc1 hc2 next
  have hx := K.hx
  have hb := K.hb
  have ok := fc_append (d := d) hR w1
  have k0 := c_L_append l D cs z A adK adV oo Os T g w1 K.hd K.ho K.hlst (okf_2 rfl ok)
  have k1 := c_X8_append l D cs w M w1 K.hm hR.hl0
  have ow : (sL_append Os T g w1).1 = sX8_thrown (sX8_append M w1).2 ∧ ((sL_append Os T g w1).1 = 0 → (sL_append Os T g w1).2.2 (0 : Int32).toNatClampNeg = (sX8_append M w1).1.toInt64) ∧ SR d (sL_append Os T g w1).2.1.1 (sL_append Os T g w1).2.1.2 (sX8_append M w1).2 := okf_w g (by decide) ok
  obtain ⟨σ, hσ⟩ : ∃ y, (sL_append Os T g w1) = y := ⟨_, rfl⟩
  obtain ⟨ρ, hρ⟩ : ∃ y, (sX8_append M w1) = y := ⟨_, rfl⟩
  rw [hσ] at k0
  rw [hσ, hρ] at ow
  rw [hρ] at k1
  refine lv_aload_n hx hb d_law_180 rfl (lv_at hl 1 rfl) ?_
  refine law_arg (v := 1) K hS (lv_sub hl [0, 4] rfl) d_law_181 d_law_182 d_law_184 d_law_185 d_law_186 (by decide) hi1 hw1 ?_
  refine lv_aload_n hx hb d_law_187 rfl (lv_at hl 3 rfl) ?_
  refine law_w K hP hS (vx_runSW (As := [.ref (z 0), .int w1, .ref oo]) (rest := []) ⟨hx, hb, K.hml, K.hown, K.hts⟩ k0 (vx_cwSW 3 K.hts (good_SW w_ml_L_112 w_st_L_append w_in_L w_co_L_append) rfl rfl rfl hd_L_append ⟨Nat.le_of_ble_eq_true rfl, Nat.le_of_ble_eq_true rfl⟩) (lwe_S K hP hS _) rfl rfl hl.1 rfl (lv_room (Nat.le_of_ble_eq_true rfl)) d_law_188 ⟨by show cells + 1 ≤ 601024; omega, by show slots + 6 ≤ 7293034; omega⟩) (fun H locs hP hS => ?_)
  refine lv_istore (lv' := (5, .int σ.1) :: lvs b z w oo x4) hx hb d_law_191 hl (by decide) rfl (fun ls hl => ?_)
  refine lv_aload_n hx hb d_law_193 rfl (lv_at hl 3 rfl) ?_
  refine law_arg (v := 1) K hS (lv_sub hl [1, 5] rfl) d_law_194 d_law_195 d_law_197 d_law_198 d_law_199 (by decide) hi1 hw1 ?_
  refine law_m K hP hS (va_runV (As := [.int w1]) (rest := []) ⟨hx, hb, K.hml, K.hown, K.hts⟩ k1 (cwV 1 K.hts (good_V w_ml_L_117 w_im_X8_append w_se_X8_append w_in_X8 w_co_X8_append) rfl rfl rfl ⟨rfl, hd_X8_append⟩ ⟨Nat.le_of_ble_eq_true rfl, Nat.le_of_ble_eq_true rfl⟩) (pe_V (ci := 8) (q0 := 0) hP.2.1 K.hE rfl rfl) rfl rfl hl.1 rfl (lv_room (Nat.le_of_ble_eq_true rfl)) d_law_200 ⟨by show cells + 1 + 0 ≤ 601024; omega, by show slots + 6 + 0 ≤ 7293034; omega⟩) (fun H locs hP hS => ?_)
  refine lv_istore (lv' := (6, .int ρ.1) :: (5, .int σ.1) :: lvs b z w oo x4) hx hb d_law_203 hl (by decide) rfl (fun ls hl => ?_)
  refine law_tail K hP hl d_law_205 d_law_206 d_law_209 d_law_211 d_law_216 d_law_218 d_law_221 d_law_222 d_law_223 d_law_224 d_law_226 d_law_227 d_law_228 d_law_233 (by decide) ⟨by omega, by omega⟩ ow.1 ow.2.1 ?_
  refine W.widen (k := cells + 2) (n := slots + 12) (by omega) (by omega) ?_
  exact next _ _ _ _ H locs ls (ow.2.2.mono (by omega)) hP hS (lv_sub hl [2, 3, 4, 5, 6] rfl)
