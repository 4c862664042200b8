/-! the cases of the law's loop: printed, work, setting, draw, revise, check, print, stamp -/
set_option maxHeartbeats 4000000 in
set_option maxRecDepth 100000 in
theorem law_c566 : LCase 566 := by
  intro p l e s m below meth c D cs z A adK adV w oo b L xs Q x4 w1 w2 w3 d Os T M g H locs cells slots ls K hi1 hi2 hi3 hw1 hw2 hw3 hR h7 h9 hP hS hl hc1 hc2 next
  have hx := K.hx
  have hb := K.hb
  have ok := rd_printed (d := d) hR w1 w2
  have k0 := c_L_printed l D cs z A adK adV oo Os T g w1 w2 K.hd K.ho K.hlst (okf_2 rfl ok)
  have k1 := c_X8_printed l D cs w M w1 w2 K.hm hR.mv
  have ow := okf_w g (by decide) ok
  unfold sL_printed at k0
  obtain ⟨σ, hσ⟩ : ∃ y, (wr [3, 1] ((sX7_printed Os T w1 w2).1, (sX7_printed Os T w1 w2).2, (Os, T)) g) = y := ⟨_, rfl⟩
  obtain ⟨ρ, hρ⟩ : ∃ y, (sX8_printed M w1 w2) = y := ⟨_, rfl⟩
  rw [hσ] at k0
  rw [hσ, hρ] at ow
  rw [hρ] at k1
  refine lv_aload_n hx hb d_law_566 rfl (lv_at hl 1 rfl) ?_
  refine law_arg (v := 1) K hS (lv_sub hl [0, 4] rfl) d_law_567 d_law_568 d_law_570 d_law_571 d_law_572 (by decide) hi1 hw1 ?_
  refine law_arg (v := 2) K hS (lv_sub hl [0, 4] rfl) d_law_573 d_law_574 d_law_576 d_law_577 d_law_578 (by decide) hi2 hw2 ?_
  refine lv_aload_n hx hb d_law_579 rfl (lv_at hl 3 rfl) ?_
  refine law_w K hP hS (vx_runSW (As := [.ref (z 0), .int w1, .int w2, .ref oo]) (rest := []) ⟨hx, hb, K.hml, K.hown, K.hts⟩ k0 (vx_cwSW 4 K.hts (good_SW w_ml_L_146 w_st_L_printed w_in_L w_co_L_printed) rfl rfl rfl hd_L_printed ⟨Nat.le_of_ble_eq_true rfl, Nat.le_of_ble_eq_true rfl⟩) (lwe_S K hP hS _) rfl rfl hl.1 rfl (lv_room (Nat.le_of_ble_eq_true rfl)) d_law_580 ⟨by show cells + 1 ≤ 601024; omega, by show slots + 6 ≤ 7293034; omega⟩) (fun H locs hP hS => ?_)
  refine lv_istore (lv' := (5, .int σ.1) :: lvs b z w oo x4) hx hb d_law_583 hl (by decide) rfl (fun ls hl => ?_)
  refine lv_aload_n hx hb d_law_585 rfl (lv_at hl 3 rfl) ?_
  refine law_arg (v := 1) K hS (lv_sub hl [1, 5] rfl) d_law_586 d_law_587 d_law_589 d_law_590 d_law_591 (by decide) hi1 hw1 ?_
  refine law_arg (v := 2) K hS (lv_sub hl [1, 5] rfl) d_law_592 d_law_593 d_law_595 d_law_596 d_law_597 (by decide) hi2 hw2 ?_
  refine law_m K hP hS (va_runV (As := [.int w1, .int w2]) (rest := []) ⟨hx, hb, K.hml, K.hown, K.hts⟩ k1 (cwV 2 K.hts (good_V w_ml_L_148 w_im_X8_printed w_se_X8_printed w_in_X8 w_co_X8_printed) rfl rfl rfl ⟨rfl, hd_X8_printed⟩ ⟨Nat.le_of_ble_eq_true rfl, Nat.le_of_ble_eq_true rfl⟩) (pe_V (ci := 8) (q0 := 0) hP.2.1 K.hE rfl rfl) rfl rfl hl.1 rfl (lv_room (Nat.le_of_ble_eq_true rfl)) d_law_598 ⟨by show cells + 1 + 0 ≤ 601024; omega, by show slots + 6 + 0 ≤ 7293034; omega⟩) (fun H locs hP hS => ?_)
  refine lv_istore (lv' := (6, .int ρ.1) :: (5, .int σ.1) :: lvs b z w oo x4) hx hb d_law_601 hl (by decide) rfl (fun ls hl => ?_)
  refine law_tail K hP hl d_law_603 d_law_604 d_law_607 d_law_609 d_law_614 d_law_616 d_law_619 d_law_620 d_law_621 d_law_622 d_law_624 d_law_625 d_law_626 d_law_631 (by decide) ⟨by omega, by omega⟩ ow.1 ow.2.1 ?_
  refine W.widen (k := cells + 2) (n := slots + 12) (by omega) (by omega) ?_
  exact next _ _ _ _ H locs ls (ow.2.2.mono (by omega)) hP hS (lv_sub hl [2, 3, 4, 5, 6] rfl)
set_option maxHeartbeats 4000000 in
set_option maxRecDepth 100000 in
theorem law_c634 : LCase 634 := by
  intro p l e s m below meth c D cs z A adK adV w oo b L xs Q x4 w1 w2 w3 d Os T M g H locs cells slots ls K hi1 hi2 hi3 hw1 hw2 hw3 hR h7 h9 hP hS hl hc1 hc2 next
  have hx := K.hx
  have hb := K.hb
  have ok := rd_work (d := d) hR w1 w2
  have k0 := c_L_work l D cs z A adK adV oo Os T g w1 w2 K.hd K.ho K.hlst (okf_2 rfl ok)
  have k1 := c_X8_work l D cs w M w1 w2 K.hm hR.mv
  have ow := okf_w g (by decide) ok
  unfold sL_work at k0
  obtain ⟨σ, hσ⟩ : ∃ y, (wr [3, 1] ((sX7_work Os T w1 w2).1, (sX7_work Os T w1 w2).2, (Os, T)) g) = y := ⟨_, rfl⟩
  obtain ⟨ρ, hρ⟩ : ∃ y, (sX8_work M w1 w2) = y := ⟨_, rfl⟩
  rw [hσ] at k0
  rw [hσ, hρ] at ow
  rw [hρ] at k1
  refine lv_aload_n hx hb d_law_634 rfl (lv_at hl 1 rfl) ?_
  refine law_arg (v := 1) K hS (lv_sub hl [0, 4] rfl) d_law_635 d_law_636 d_law_638 d_law_639 d_law_640 (by decide) hi1 hw1 ?_
  refine law_arg (v := 2) K hS (lv_sub hl [0, 4] rfl) d_law_641 d_law_642 d_law_644 d_law_645 d_law_646 (by decide) hi2 hw2 ?_
  refine lv_aload_n hx hb d_law_647 rfl (lv_at hl 3 rfl) ?_
  refine law_w K hP hS (vx_runSW (As := [.ref (z 0), .int w1, .int w2, .ref oo]) (rest := []) ⟨hx, hb, K.hml, K.hown, K.hts⟩ k0 (vx_cwSW 4 K.hts (good_SW w_ml_L_149 w_st_L_work w_in_L w_co_L_work) rfl rfl rfl hd_L_work ⟨Nat.le_of_ble_eq_true rfl, Nat.le_of_ble_eq_true rfl⟩) (lwe_S K hP hS _) rfl rfl hl.1 rfl (lv_room (Nat.le_of_ble_eq_true rfl)) d_law_648 ⟨by show cells + 1 ≤ 601024; omega, by show slots + 6 ≤ 7293034; omega⟩) (fun H locs hP hS => ?_)
  refine lv_istore (lv' := (5, .int σ.1) :: lvs b z w oo x4) hx hb d_law_651 hl (by decide) rfl (fun ls hl => ?_)
  refine lv_aload_n hx hb d_law_653 rfl (lv_at hl 3 rfl) ?_
  refine law_arg (v := 1) K hS (lv_sub hl [1, 5] rfl) d_law_654 d_law_655 d_law_657 d_law_658 d_law_659 (by decide) hi1 hw1 ?_
  refine law_arg (v := 2) K hS (lv_sub hl [1, 5] rfl) d_law_660 d_law_661 d_law_663 d_law_664 d_law_665 (by decide) hi2 hw2 ?_
  refine law_m K hP hS (va_runV (As := [.int w1, .int w2]) (rest := []) ⟨hx, hb, K.hml, K.hown, K.hts⟩ k1 (cwV 2 K.hts (good_V w_ml_L_151 w_im_X8_work w_se_X8_work w_in_X8 w_co_X8_work) rfl rfl rfl ⟨rfl, hd_X8_work⟩ ⟨Nat.le_of_ble_eq_true rfl, Nat.le_of_ble_eq_true rfl⟩) (pe_V (ci := 8) (q0 := 0) hP.2.1 K.hE rfl rfl) rfl rfl hl.1 rfl (lv_room (Nat.le_of_ble_eq_true rfl)) d_law_666 ⟨by show cells + 1 + 0 ≤ 601024; omega, by show slots + 6 + 0 ≤ 7293034; omega⟩) (fun H locs hP hS => ?_)
  refine lv_istore (lv' := (6, .int ρ.1) :: (5, .int σ.1) :: lvs b z w oo x4) hx hb d_law_669 hl (by decide) rfl (fun ls hl => ?_)
  refine law_tail K hP hl d_law_671 d_law_672 d_law_675 d_law_677 d_law_682 d_law_684 d_law_687 d_law_688 d_law_689 d_law_690 d_law_692 d_law_693 d_law_694 d_law_699 (by decide) ⟨by omega, by omega⟩ ow.1 ow.2.1 ?_
  refine W.widen (k := cells + 2) (n := slots + 12) (by omega) (by omega) ?_
  exact next _ _ _ _ H locs ls (ow.2.2.mono (by omega)) hP hS (lv_sub hl [2, 3, 4, 5, 6] rfl)
set_option maxHeartbeats 4000000 in
set_option maxRecDepth 100000 in
theorem law_c702 : LCase 702 := by
  intro p l e s m below meth c D cs z A adK adV w oo b L xs Q x4 w1 w2 w3 d Os T M g H locs cells slots ls K hi1 hi2 hi3 hw1 hw2 hw3 hR h7 h9 hP hS hl hc1 hc2 next
  have hx := K.hx
  have hb := K.hb
  have ok := rd_setting (d := d) hR w1
  have k0 := c_L_setting l D cs z A adK adV oo Os T g w1 K.hd K.ho K.hlst (okf_0 rfl ok)
  have k1 := c_X8_setting l D cs w M w1 K.hm hR.mv
  have ow := okf_w g (by decide) ok
  unfold sL_setting at k0
  obtain ⟨σ, hσ⟩ : ∃ y, (wr [1] ((sX7_setting Os T w1).1, (sX7_setting Os T w1).2, (Os, T)) g) = y := ⟨_, rfl⟩
  obtain ⟨ρ, hρ⟩ : ∃ y, (sX8_setting M w1) = y := ⟨_, rfl⟩
  rw [hσ] at k0
  rw [hσ, hρ] at ow
  rw [hρ] at k1
  refine lv_aload_n hx hb d_law_702 rfl (lv_at hl 1 rfl) ?_
  refine law_arg (v := 1) K hS (lv_sub hl [0, 4] rfl) d_law_703 d_law_704 d_law_706 d_law_707 d_law_708 (by decide) hi1 hw1 ?_
  refine lv_aload_n hx hb d_law_709 rfl (lv_at hl 3 rfl) ?_
  refine law_w K hP hS (vx_runSW (As := [.ref (z 0), .int w1, .ref oo]) (rest := []) ⟨hx, hb, K.hml, K.hown, K.hts⟩ k0 (vx_cwSW 3 K.hts (good_SW w_ml_L_152 w_st_L_setting w_in_L w_co_L_setting) rfl rfl rfl hd_L_setting ⟨Nat.le_of_ble_eq_true rfl, Nat.le_of_ble_eq_true rfl⟩) (lwe_S K hP hS _) rfl rfl hl.1 rfl (lv_room (Nat.le_of_ble_eq_true rfl)) d_law_710 ⟨by show cells + 1 ≤ 601024; omega, by show slots + 6 ≤ 7293034; omega⟩) (fun H locs hP hS => ?_)
  refine lv_istore (lv' := (5, .int σ.1) :: lvs b z w oo x4) hx hb d_law_713 hl (by decide) rfl (fun ls hl => ?_)
  refine lv_aload_n hx hb d_law_715 rfl (lv_at hl 3 rfl) ?_
  refine law_arg (v := 1) K hS (lv_sub hl [1, 5] rfl) d_law_716 d_law_717 d_law_719 d_law_720 d_law_721 (by decide) hi1 hw1 ?_
  refine law_m K hP hS (va_runV (As := [.int w1]) (rest := []) ⟨hx, hb, K.hml, K.hown, K.hts⟩ k1 (cwV 1 K.hts (good_V w_ml_L_154 w_im_X8_setting w_se_X8_setting w_in_X8 w_co_X8_setting) rfl rfl rfl ⟨rfl, hd_X8_setting⟩ ⟨Nat.le_of_ble_eq_true rfl, Nat.le_of_ble_eq_true rfl⟩) (pe_V (ci := 8) (q0 := 0) hP.2.1 K.hE rfl rfl) rfl rfl hl.1 rfl (lv_room (Nat.le_of_ble_eq_true rfl)) d_law_722 ⟨by show cells + 1 + 0 ≤ 601024; omega, by show slots + 6 + 0 ≤ 7293034; omega⟩) (fun H locs hP hS => ?_)
  refine lv_istore (lv' := (6, .int ρ.1) :: (5, .int σ.1) :: lvs b z w oo x4) hx hb d_law_725 hl (by decide) rfl (fun ls hl => ?_)
  refine law_tail K hP hl d_law_727 d_law_728 d_law_731 d_law_733 d_law_738 d_law_740 d_law_743 d_law_744 d_law_745 d_law_746 d_law_748 d_law_749 d_law_750 d_law_755 (by decide) ⟨by omega, by omega⟩ ow.1 ow.2.1 ?_
  refine W.widen (k := cells + 2) (n := slots + 12) (by omega) (by omega) ?_
  exact next _ _ _ _ H locs ls (ow.2.2.mono (by omega)) hP hS (lv_sub hl [2, 3, 4, 5, 6] rfl)
set_option maxHeartbeats 4000000 in
set_option maxRecDepth 100000 in
theorem law_c758 : LCase 758 := by
  intro p l e s m below meth c D cs z A adK adV w oo b L xs Q x4 w1 w2 w3 d Os T M g H locs cells slots ls K hi1 hi2 hi3 hw1 hw2 hw3 hR h7 h9 hP hS hl hc1 hc2 next
  have hx := K.hx
  have hb := K.hb
  have ok := fc_draw (d := d) hR w1
  have k0 := c_L_draw l D cs z A adK adV oo Os T g w1 K.hd K.ho K.hlst hR.hn (okf_2 rfl ok)
  have k1 := c_X8_draw l D cs w M w1 K.hm hR.mv hR.h0
  have ow := okf_w g (by decide) ok
  unfold sL_draw at k0
  obtain ⟨σ, hσ⟩ : ∃ y, (wr [3, 2] (sX7_draw Os T w1) g) = y := ⟨_, rfl⟩
  obtain ⟨ρ, hρ⟩ : ∃ y, (sX8_draw M w1) = y := ⟨_, rfl⟩
  rw [hσ] at k0
  rw [hσ, hρ] at ow
  rw [hρ] at k1
  refine lv_aload_n hx hb d_law_758 rfl (lv_at hl 1 rfl) ?_
  refine law_arg (v := 1) K hS (lv_sub hl [0, 4] rfl) d_law_759 d_law_760 d_law_762 d_law_763 d_law_764 (by decide) hi1 hw1 ?_
  refine lv_aload_n hx hb d_law_765 rfl (lv_at hl 3 rfl) ?_
  refine law_w K hP hS (vx_runSW (As := [.ref (z 0), .int w1, .ref oo]) (rest := []) ⟨hx, hb, K.hml, K.hown, K.hts⟩ k0 (vx_cwSW 3 K.hts (good_SW w_ml_L_155 w_st_L_draw w_in_L w_co_L_draw) rfl rfl rfl hd_L_draw ⟨Nat.le_of_ble_eq_true rfl, Nat.le_of_ble_eq_true rfl⟩) (lwe_S K hP hS _) rfl rfl hl.1 rfl (lv_room (Nat.le_of_ble_eq_true rfl)) d_law_766 ⟨by show cells + 1 ≤ 601024; omega, by show slots + 6 ≤ 7293034; omega⟩) (fun H locs hP hS => ?_)
  refine lv_istore (lv' := (5, .int σ.1) :: lvs b z w oo x4) hx hb d_law_769 hl (by decide) rfl (fun ls hl => ?_)
  refine lv_aload_n hx hb d_law_771 rfl (lv_at hl 3 rfl) ?_
  refine law_arg (v := 1) K hS (lv_sub hl [1, 5] rfl) d_law_772 d_law_773 d_law_775 d_law_776 d_law_777 (by decide) hi1 hw1 ?_
  refine law_m K hP hS (va_runV (As := [.int w1]) (rest := []) ⟨hx, hb, K.hml, K.hown, K.hts⟩ k1 (cwV 1 K.hts (good_V w_ml_L_157 w_im_X8_draw w_se_X8_draw w_in_X8 w_co_X8_draw) rfl rfl rfl ⟨rfl, hd_X8_draw⟩ ⟨Nat.le_of_ble_eq_true rfl, Nat.le_of_ble_eq_true rfl⟩) (pe_V (ci := 8) (q0 := 0) hP.2.1 K.hE rfl rfl) rfl rfl hl.1 rfl (lv_room (Nat.le_of_ble_eq_true rfl)) d_law_778 ⟨by show cells + 1 + 0 ≤ 601024; omega, by show slots + 6 + 0 ≤ 7293034; omega⟩) (fun H locs hP hS => ?_)
  refine lv_istore (lv' := (6, .int ρ.1) :: (5, .int σ.1) :: lvs b z w oo x4) hx hb d_law_781 hl (by decide) rfl (fun ls hl => ?_)
  refine law_tail K hP hl d_law_783 d_law_784 d_law_787 d_law_789 d_law_794 d_law_796 d_law_799 d_law_800 d_law_801 d_law_802 d_law_804 d_law_805 d_law_806 d_law_811 (by decide) ⟨by omega, by omega⟩ ow.1 ow.2.1 ?_
  refine W.widen (k := cells + 2) (n := slots + 12) (by omega) (by omega) ?_
  exact next _ _ _ _ H locs ls (ow.2.2.mono (by omega)) hP hS (lv_sub hl [2, 3, 4, 5, 6] rfl)
set_option maxHeartbeats 4000000 in
set_option maxRecDepth 100000 in
theorem law_c814 : LCase 814 := by
  intro p l e s m below meth c D cs z A adK adV w oo b L xs Q x4 w1 w2 w3 d Os T M g H locs cells slots ls K hi1 hi2 hi3 hw1 hw2 hw3 hR h7 h9 hP hS hl hc1 hc2 next
  have hx := K.hx
  have hb := K.hb
  have ok := fc_revise (d := d) hR (by omega) w1 w2
  have k0 := c_L_revise l D cs z A adK adV oo Os T g w1 w2 K.hd K.ho K.hlst hR.hn (okf_3 rfl ok)
  have k1 := c_X8_revise l D cs w M w1 w2 K.hm hR.mv hR.h0
  have ow := okf_w g (by decide) ok
  unfold sL_revise at k0
  obtain ⟨σ, hσ⟩ : ∃ y, (wr [3, 1, 2] (sX7_revise Os T w1 w2) g) = y := ⟨_, rfl⟩
  obtain ⟨ρ, hρ⟩ : ∃ y, (sX8_revise M w1 w2) = y := ⟨_, rfl⟩
  rw [hσ] at k0
  rw [hσ, hρ] at ow
  rw [hρ] at k1
  refine lv_aload_n hx hb d_law_814 rfl (lv_at hl 1 rfl) ?_
  refine law_arg (v := 1) K hS (lv_sub hl [0, 4] rfl) d_law_815 d_law_816 d_law_818 d_law_819 d_law_820 (by decide) hi1 hw1 ?_
  refine law_arg (v := 2) K hS (lv_sub hl [0, 4] rfl) d_law_821 d_law_822 d_law_824 d_law_825 d_law_826 (by decide) hi2 hw2 ?_
  refine lv_aload_n hx hb d_law_827 rfl (lv_at hl 3 rfl) ?_
  refine law_w K hP hS (vx_runSW (As := [.ref (z 0), .int w1, .int w2, .ref oo]) (rest := []) ⟨hx, hb, K.hml, K.hown, K.hts⟩ k0 (vx_cwSW 4 K.hts (good_SW w_ml_L_158 w_st_L_revise w_in_L w_co_L_revise) rfl rfl rfl hd_L_revise ⟨Nat.le_of_ble_eq_true rfl, Nat.le_of_ble_eq_true rfl⟩) (lwe_S K hP hS _) rfl rfl hl.1 rfl (lv_room (Nat.le_of_ble_eq_true rfl)) d_law_828 ⟨by show cells + 1 ≤ 601024; omega, by show slots + 6 ≤ 7293034; omega⟩) (fun H locs hP hS => ?_)
  refine lv_istore (lv' := (5, .int σ.1) :: lvs b z w oo x4) hx hb d_law_831 hl (by decide) rfl (fun ls hl => ?_)
  refine lv_aload_n hx hb d_law_833 rfl (lv_at hl 3 rfl) ?_
  refine law_arg (v := 1) K hS (lv_sub hl [1, 5] rfl) d_law_834 d_law_835 d_law_837 d_law_838 d_law_839 (by decide) hi1 hw1 ?_
  refine law_arg (v := 2) K hS (lv_sub hl [1, 5] rfl) d_law_840 d_law_841 d_law_843 d_law_844 d_law_845 (by decide) hi2 hw2 ?_
  refine law_m K hP hS (va_runV (As := [.int w1, .int w2]) (rest := []) ⟨hx, hb, K.hml, K.hown, K.hts⟩ k1 (cwV 2 K.hts (good_V w_ml_L_160 w_im_X8_revise w_se_X8_revise w_in_X8 w_co_X8_revise) rfl rfl rfl ⟨rfl, hd_X8_revise⟩ ⟨Nat.le_of_ble_eq_true rfl, Nat.le_of_ble_eq_true rfl⟩) (pe_V (ci := 8) (q0 := 0) hP.2.1 K.hE rfl rfl) rfl rfl hl.1 rfl (lv_room (Nat.le_of_ble_eq_true rfl)) d_law_846 ⟨by show cells + 1 + 0 ≤ 601024; omega, by show slots + 6 + 0 ≤ 7293034; omega⟩) (fun H locs hP hS => ?_)
  refine lv_istore (lv' := (6, .int ρ.1) :: (5, .int σ.1) :: lvs b z w oo x4) hx hb d_law_849 hl (by decide) rfl (fun ls hl => ?_)
  refine law_tail K hP hl d_law_851 d_law_852 d_law_855 d_law_857 d_law_862 d_law_864 d_law_867 d_law_868 d_law_869 d_law_870 d_law_872 d_law_873 d_law_874 d_law_879 (by decide) ⟨by omega, by omega⟩ ow.1 ow.2.1 ?_
  refine W.widen (k := cells + 2) (n := slots + 12) (by omega) (by omega) ?_
  exact next _ _ _ _ H locs ls (ow.2.2.mono (by omega)) hP hS (lv_sub hl [2, 3, 4, 5, 6] rfl)
set_option maxHeartbeats 4000000 in
set_option maxRecDepth 100000 in
theorem law_c882 : LCase 882 := by
  intro p l e s m below meth c D cs z A adK adV w oo b L xs Q x4 w1 w2 w3 d Os T M g H locs cells slots ls K hi1 hi2 hi3 hw1 hw2 hw3 hR h7 h9 hP hS hl hc1 hc2 next
  have hx := K.hx
  have hb := K.hb
  have ok := fc_check (d := d) hR w1
  have k0 := c_L_check l D cs z A adK adV oo Os T g w1 K.hd K.ho K.hlst hR.hn (okf_2 rfl ok)
  have k1 := c_X8_check l D cs w M w1 K.hm hR.mv hR.h0
  have ow := okf_w g (by decide) ok
  unfold sL_check at k0
  obtain ⟨σ, hσ⟩ : ∃ y, (wr [3, 2] (sX7_check Os T w1) g) = y := ⟨_, rfl⟩
  obtain ⟨ρ, hρ⟩ : ∃ y, (sX8_check M w1) = y := ⟨_, rfl⟩
  rw [hσ] at k0
  rw [hσ, hρ] at ow
  rw [hρ] at k1
  refine lv_aload_n hx hb d_law_882 rfl (lv_at hl 1 rfl) ?_
  refine law_arg (v := 1) K hS (lv_sub hl [0, 4] rfl) d_law_883 d_law_884 d_law_886 d_law_887 d_law_888 (by decide) hi1 hw1 ?_
  refine lv_aload_n hx hb d_law_889 rfl (lv_at hl 3 rfl) ?_
  refine law_w K hP hS (vx_runSW (As := [.ref (z 0), .int w1, .ref oo]) (rest := []) ⟨hx, hb, K.hml, K.hown, K.hts⟩ k0 (vx_cwSW 3 K.hts (good_SW w_ml_L_161 w_st_L_check w_in_L w_co_L_check) rfl rfl rfl hd_L_check ⟨Nat.le_of_ble_eq_true rfl, Nat.le_of_ble_eq_true rfl⟩) (lwe_S K hP hS _) rfl rfl hl.1 rfl (lv_room (Nat.le_of_ble_eq_true rfl)) d_law_890 ⟨by show cells + 1 ≤ 601024; omega, by show slots + 6 ≤ 7293034; omega⟩) (fun H locs hP hS => ?_)
  refine lv_istore (lv' := (5, .int σ.1) :: lvs b z w oo x4) hx hb d_law_893 hl (by decide) rfl (fun ls hl => ?_)
  refine lv_aload_n hx hb d_law_895 rfl (lv_at hl 3 rfl) ?_
  refine law_arg (v := 1) K hS (lv_sub hl [1, 5] rfl) d_law_896 d_law_897 d_law_899 d_law_900 d_law_901 (by decide) hi1 hw1 ?_
  refine law_m K hP hS (va_runV (As := [.int w1]) (rest := []) ⟨hx, hb, K.hml, K.hown, K.hts⟩ k1 (cwV 1 K.hts (good_V w_ml_L_163 w_im_X8_check w_se_X8_check w_in_X8 w_co_X8_check) rfl rfl rfl ⟨rfl, hd_X8_check⟩ ⟨Nat.le_of_ble_eq_true rfl, Nat.le_of_ble_eq_true rfl⟩) (pe_V (ci := 8) (q0 := 0) hP.2.1 K.hE rfl rfl) rfl rfl hl.1 rfl (lv_room (Nat.le_of_ble_eq_true rfl)) d_law_902 ⟨by show cells + 1 + 0 ≤ 601024; omega, by show slots + 6 + 0 ≤ 7293034; omega⟩) (fun H locs hP hS => ?_)
  refine lv_istore (lv' := (6, .int ρ.1) :: (5, .int σ.1) :: lvs b z w oo x4) hx hb d_law_905 hl (by decide) rfl (fun ls hl => ?_)
  refine law_tail K hP hl d_law_907 d_law_908 d_law_911 d_law_913 d_law_918 d_law_920 d_law_923 d_law_924 d_law_925 d_law_926 d_law_928 d_law_929 d_law_930 d_law_935 (by decide) ⟨by omega, by omega⟩ ow.1 ow.2.1 ?_
  refine W.widen (k := cells + 2) (n := slots + 12) (by omega) (by omega) ?_
  exact next _ _ _ _ H locs ls (ow.2.2.mono (by omega)) hP hS (lv_sub hl [2, 3, 4, 5, 6] rfl)
set_option maxHeartbeats 4000000 in
set_option maxRecDepth 100000 in
theorem law_c938 : LCase 938 := by
  intro p l e s m below meth c D cs z A adK adV w oo b L xs Q x4 w1 w2 w3 d Os T M g H locs cells slots ls K hi1 hi2 hi3 hw1 hw2 hw3 hR h7 h9 hP hS hl hc1 hc2 next
  have hx := K.hx
  have hb := K.hb
  have ok := fc_print (d := d) hR w1 w2
  have k0 := c_L_print l D cs z A adK adV oo Os T g w1 w2 K.hd K.ho K.hlst hR.hn (okf_2 rfl ok)
  have k1 := c_X8_print l D cs w M w1 w2 K.hm hR.mv hR.h0
  have ow := okf_w g (by decide) ok
  unfold sL_print at k0
  obtain ⟨σ, hσ⟩ : ∃ y, (wr [3, 2] (sX7_print Os T w1 w2) g) = y := ⟨_, rfl⟩
  obtain ⟨ρ, hρ⟩ : ∃ y, (sX8_print M w1 w2) = y := ⟨_, rfl⟩
  rw [hσ] at k0
  rw [hσ, hρ] at ow
  rw [hρ] at k1
  refine lv_aload_n hx hb d_law_938 rfl (lv_at hl 1 rfl) ?_
  refine law_arg (v := 1) K hS (lv_sub hl [0, 4] rfl) d_law_939 d_law_940 d_law_942 d_law_943 d_law_944 (by decide) hi1 hw1 ?_
  refine law_arg (v := 2) K hS (lv_sub hl [0, 4] rfl) d_law_945 d_law_946 d_law_948 d_law_949 d_law_950 (by decide) hi2 hw2 ?_
  refine lv_aload_n hx hb d_law_951 rfl (lv_at hl 3 rfl) ?_
  refine law_w K hP hS (vx_runSW (As := [.ref (z 0), .int w1, .int w2, .ref oo]) (rest := []) ⟨hx, hb, K.hml, K.hown, K.hts⟩ k0 (vx_cwSW 4 K.hts (good_SW w_ml_L_164 w_st_L_print w_in_L w_co_L_print) rfl rfl rfl hd_L_print ⟨Nat.le_of_ble_eq_true rfl, Nat.le_of_ble_eq_true rfl⟩) (lwe_S K hP hS _) rfl rfl hl.1 rfl (lv_room (Nat.le_of_ble_eq_true rfl)) d_law_952 ⟨by show cells + 1 ≤ 601024; omega, by show slots + 6 ≤ 7293034; omega⟩) (fun H locs hP hS => ?_)
  refine lv_istore (lv' := (5, .int σ.1) :: lvs b z w oo x4) hx hb d_law_955 hl (by decide) rfl (fun ls hl => ?_)
  refine lv_aload_n hx hb d_law_957 rfl (lv_at hl 3 rfl) ?_
  refine law_arg (v := 1) K hS (lv_sub hl [1, 5] rfl) d_law_958 d_law_959 d_law_961 d_law_962 d_law_963 (by decide) hi1 hw1 ?_
  refine law_arg (v := 2) K hS (lv_sub hl [1, 5] rfl) d_law_964 d_law_965 d_law_967 d_law_968 d_law_969 (by decide) hi2 hw2 ?_
  refine law_m K hP hS (va_runV (As := [.int w1, .int w2]) (rest := []) ⟨hx, hb, K.hml, K.hown, K.hts⟩ k1 (cwV 2 K.hts (good_V w_ml_L_166 w_im_X8_print w_se_X8_print w_in_X8 w_co_X8_print) rfl rfl rfl ⟨rfl, hd_X8_print⟩ ⟨Nat.le_of_ble_eq_true rfl, Nat.le_of_ble_eq_true rfl⟩) (pe_V (ci := 8) (q0 := 0) hP.2.1 K.hE rfl rfl) rfl rfl hl.1 rfl (lv_room (Nat.le_of_ble_eq_true rfl)) d_law_970 ⟨by show cells + 1 + 0 ≤ 601024; omega, by show slots + 6 + 0 ≤ 7293034; omega⟩) (fun H locs hP hS => ?_)
  refine lv_istore (lv' := (6, .int ρ.1) :: (5, .int σ.1) :: lvs b z w oo x4) hx hb d_law_973 hl (by decide) rfl (fun ls hl => ?_)
  refine law_tail K hP hl d_law_975 d_law_976 d_law_979 d_law_981 d_law_986 d_law_988 d_law_991 d_law_992 d_law_993 d_law_994 d_law_996 d_law_997 d_law_998 d_law_1003 (by decide) ⟨by omega, by omega⟩ ow.1 ow.2.1 ?_
  refine W.widen (k := cells + 2) (n := slots + 12) (by omega) (by omega) ?_
  exact next _ _ _ _ H locs ls (ow.2.2.mono (by omega)) hP hS (lv_sub hl [2, 3, 4, 5, 6] rfl)
set_option maxHeartbeats 4000000 in
set_option maxRecDepth 100000 in
theorem law_c1006 : LCase 1006 := by
  intro p l e s m below meth c D cs z A adK adV w oo b L xs Q x4 w1 w2 w3 d Os T M g H locs cells slots ls K hi1 hi2 hi3 hw1 hw2 hw3 hR h7 h9 hP hS hl hc1 hc2 next
  have hx := K.hx
  have hb := K.hb
  have ok := fc_stamp (d := d) hR w1 w2
  have k0 := c_L_stamp l D cs z A adK adV oo Os T g w1 w2 K.hd K.ho K.hlst hR.hn (okf_2 rfl ok)
  have k1 := c_X8_stamp l D cs w M w1 w2 K.hm hR.mv hR.h0
  have ow := okf_w g (by decide) ok
  unfold sL_stamp at k0
  obtain ⟨σ, hσ⟩ : ∃ y, (wr [3, 2] (sX7_stamp Os T w1 w2) g) = y := ⟨_, rfl⟩
  obtain ⟨ρ, hρ⟩ : ∃ y, (sX8_stamp M w1 w2) = y := ⟨_, rfl⟩
  rw [hσ] at k0
  rw [hσ, hρ] at ow
  rw [hρ] at k1
  refine lv_aload_n hx hb d_law_1006 rfl (lv_at hl 1 rfl) ?_
  refine law_arg (v := 1) K hS (lv_sub hl [0, 4] rfl) d_law_1007 d_law_1008 d_law_1010 d_law_1011 d_law_1012 (by decide) hi1 hw1 ?_
  refine law_arg (v := 2) K hS (lv_sub hl [0, 4] rfl) d_law_1013 d_law_1014 d_law_1016 d_law_1017 d_law_1018 (by decide) hi2 hw2 ?_
  refine lv_aload_n hx hb d_law_1019 rfl (lv_at hl 3 rfl) ?_
  refine law_w K hP hS (vx_runSW (As := [.ref (z 0), .int w1, .int w2, .ref oo]) (rest := []) ⟨hx, hb, K.hml, K.hown, K.hts⟩ k0 (vx_cwSW 4 K.hts (good_SW w_ml_L_167 w_st_L_stamp w_in_L w_co_L_stamp) rfl rfl rfl hd_L_stamp ⟨Nat.le_of_ble_eq_true rfl, Nat.le_of_ble_eq_true rfl⟩) (lwe_S K hP hS _) rfl rfl hl.1 rfl (lv_room (Nat.le_of_ble_eq_true rfl)) d_law_1020 ⟨by show cells + 1 ≤ 601024; omega, by show slots + 6 ≤ 7293034; omega⟩) (fun H locs hP hS => ?_)
  refine lv_istore (lv' := (5, .int σ.1) :: lvs b z w oo x4) hx hb d_law_1023 hl (by decide) rfl (fun ls hl => ?_)
  refine lv_aload_n hx hb d_law_1025 rfl (lv_at hl 3 rfl) ?_
  refine law_arg (v := 1) K hS (lv_sub hl [1, 5] rfl) d_law_1026 d_law_1027 d_law_1029 d_law_1030 d_law_1031 (by decide) hi1 hw1 ?_
  refine law_arg (v := 2) K hS (lv_sub hl [1, 5] rfl) d_law_1032 d_law_1033 d_law_1035 d_law_1036 d_law_1037 (by decide) hi2 hw2 ?_
  refine law_m K hP hS (va_runV (As := [.int w1, .int w2]) (rest := []) ⟨hx, hb, K.hml, K.hown, K.hts⟩ k1 (cwV 2 K.hts (good_V w_ml_L_169 w_im_X8_stamp w_se_X8_stamp w_in_X8 w_co_X8_stamp) rfl rfl rfl ⟨rfl, hd_X8_stamp⟩ ⟨Nat.le_of_ble_eq_true rfl, Nat.le_of_ble_eq_true rfl⟩) (pe_V (ci := 8) (q0 := 0) hP.2.1 K.hE rfl rfl) rfl rfl hl.1 rfl (lv_room (Nat.le_of_ble_eq_true rfl)) d_law_1038 ⟨by show cells + 1 + 0 ≤ 601024; omega, by show slots + 6 + 0 ≤ 7293034; omega⟩) (fun H locs hP hS => ?_)
  refine lv_istore (lv' := (6, .int ρ.1) :: (5, .int σ.1) :: lvs b z w oo x4) hx hb d_law_1041 hl (by decide) rfl (fun ls hl => ?_)
  refine law_tail K hP hl d_law_1043 d_law_1044 d_law_1047 d_law_1049 d_law_1054 d_law_1056 d_law_1059 d_law_1060 d_law_1061 d_law_1062 d_law_1064 d_law_1065 d_law_1066 d_law_1071 (by decide) ⟨by omega, by omega⟩ ow.1 ow.2.1 ?_
  refine W.widen (k := cells + 2) (n := slots + 12) (by omega) (by omega) ?_
  exact next _ _ _ _ H locs ls (ow.2.2.mono (by omega)) hP hS (lv_sub hl [2, 3, 4, 5, 6] rfl)
