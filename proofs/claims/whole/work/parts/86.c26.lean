/-! the cases of the law's loop: worst -/
set_option maxHeartbeats 4000000 in
set_option maxRecDepth 100000 in
theorem law_c1682 : LCase 1682 := by
  intro p l e s m below meth c D cs z A adK adV w oo b L xs Q x4 w1 w2 w3 d Os T M g H locs cells slots ls K hi1 hi2 hi3 hw1 hw2 hw3 hR h7 h9 hP hS hl hc1 hc2 next
  have hx := K.hx
  have hb := K.hb
  have ow := fc_worst (d := d) hR (by omega)
  have k0 := c_X7_worst l D cs z A adK adV Os T K.hd
  have k1 := c_X8_worst l D cs w M K.hm hR.mv
  obtain ⟨σ, hσ⟩ : ∃ y, sX7_worst Os T = y := ⟨_, rfl⟩
  obtain ⟨ρ, hρ⟩ : ∃ y, sX8_worst M = y := ⟨_, rfl⟩
  rw [hσ] at k0
  rw [hσ, hρ] at ow
  rw [hρ] at k1
  refine lv_aload_n hx hb d_law_1682 rfl (lv_at hl 1 rfl) ?_
  refine vp_callSi (run_c (va_runV (As := []) (rest := []) ⟨hx, hb, K.hml, K.hown, K.hts⟩ k0 (cwV 0 K.hts (good_V w_ml_L_201 w_im_X7_worst w_se_X7_worst w_in_X7 w_co_X7_worst) rfl rfl rfl ⟨rfl, hd_X7_worst⟩ ⟨Nat.le_of_ble_eq_true rfl, Nat.le_of_ble_eq_true rfl⟩) (te_V (C := RX7) (T9 := TX7) (N := 5) (ci := 7) (q0 := 0) hP.1 K.hE K.hXE (K.hSt hS) rfl rfl) rfl rfl hl.1 rfl (lv_room (Nat.le_of_ble_eq_true rfl)) d_law_1683 ⟨by show cells + 0 ≤ 601024; omega, by show slots + 0 ≤ 7293034; omega⟩)) (fun r hr => ?_)
  subst hr
  refine lv_aload_n hx hb d_law_1686 rfl (lv_at hl 2 rfl) ?_
  refine law_m K hP hS (va_runV (As := []) (rest := [.int σ]) ⟨hx, hb, K.hml, K.hown, K.hts⟩ k1 (cwV 0 K.hts (good_V w_ml_L_204 w_im_X8_worst w_se_X8_worst w_in_X8 w_co_X8_worst) rfl rfl rfl ⟨rfl, hd_X8_worst⟩ ⟨Nat.le_of_ble_eq_true rfl, Nat.le_of_ble_eq_true rfl⟩) (pe_V (ci := 8) (q0 := 0) hP.2.1 K.hE rfl rfl) rfl rfl hl.1 rfl (lv_room (Nat.le_of_ble_eq_true rfl)) d_law_1687 ⟨by show cells + 0 ≤ 601024; omega, by show slots + 0 ≤ 7293034; omega⟩) (fun H locs hP hS => ?_)
  refine lv_icmp_eq (tgt := 2075) hx hb d_law_1690 (by decide) (fun _ => ?_) (fun c9 => absurd ow.1 c9)
  refine W.widen (k := cells + 2) (n := slots + 12) (by omega) (by omega) ?_
  exact next _ _ _ _ H locs ls (ow.2.mono (by omega)) hP hS hl
