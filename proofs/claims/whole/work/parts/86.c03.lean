/-! the cases of the law's loop: coming, fetch, worst, common, runScript, simulate, save, restore -/
set_option maxHeartbeats 4000000 in
set_option maxRecDepth 100000 in
theorem law_c1570 : LCase 1570 := by
  intro p l e s m below meth c D cs z A adK adV w oo b L xs Q x4 w1 w2 w3 d Os T M g H locs cells slots ls K hi1 hi2 hi3 hw1 hw2 hw3 hR h7 h9 hP hS hl hc1 hc2 next
  have hx := K.hx
  have hb := K.hb
  have ok := rd_coming (d := d) hR (by omega) w1
  have k0 := c_L_coming l D cs z A adK adV oo Os T g w1 K.hd K.ho K.hlst (okf_0 rfl ok)
  have k1 := c_X8_coming l D cs w M w1 K.hm hR.mv
  have ow := okf_w g (by decide) ok
  unfold sL_coming at k0
  obtain ⟨σ, hσ⟩ : ∃ y, (wr [1] ((sX7_coming Os T w1).1, (sX7_coming Os T w1).2, (Os, T)) g) = y := ⟨_, rfl⟩
  obtain ⟨ρ, hρ⟩ : ∃ y, (sX8_coming M w1) = y := ⟨_, rfl⟩
  rw [hσ] at k0
  rw [hσ, hρ] at ow
  rw [hρ] at k1
  refine lv_aload_n hx hb d_law_1570 rfl (lv_at hl 1 rfl) ?_
  refine law_arg (v := 1) K hS (lv_sub hl [0, 4] rfl) d_law_1571 d_law_1572 d_law_1574 d_law_1575 d_law_1576 (by decide) hi1 hw1 ?_
  refine lv_aload_n hx hb d_law_1577 rfl (lv_at hl 3 rfl) ?_
  refine law_w K hP hS (vx_runSW (As := [.ref (z 0), .int w1, .ref oo]) (rest := []) ⟨hx, hb, K.hml, K.hown, K.hts⟩ k0 (vx_cwSW 3 K.hts (good_SW w_ml_L_195 w_st_L_coming w_in_L w_co_L_coming) rfl rfl rfl hd_L_coming ⟨Nat.le_of_ble_eq_true rfl, Nat.le_of_ble_eq_true rfl⟩) (lwe_S K hP hS _) rfl rfl hl.1 rfl (lv_room (Nat.le_of_ble_eq_true rfl)) d_law_1578 ⟨by show cells + 1 ≤ 601024; omega, by show slots + 6 ≤ 7293034; omega⟩) (fun H locs hP hS => ?_)
  refine lv_istore (lv' := (5, .int σ.1) :: lvs b z w oo x4) hx hb d_law_1581 hl (by decide) rfl (fun ls hl => ?_)
  refine lv_aload_n hx hb d_law_1583 rfl (lv_at hl 3 rfl) ?_
  refine law_arg (v := 1) K hS (lv_sub hl [1, 5] rfl) d_law_1584 d_law_1585 d_law_1587 d_law_1588 d_law_1589 (by decide) hi1 hw1 ?_
  refine law_m K hP hS (va_runV (As := [.int w1]) (rest := []) ⟨hx, hb, K.hml, K.hown, K.hts⟩ k1 (cwV 1 K.hts (good_V w_ml_L_197 w_im_X8_coming w_se_X8_coming w_in_X8 w_co_X8_coming) rfl rfl rfl ⟨rfl, hd_X8_coming⟩ ⟨Nat.le_of_ble_eq_true rfl, Nat.le_of_ble_eq_true rfl⟩) (pe_V (ci := 8) (q0 := 0) hP.2.1 K.hE rfl rfl) rfl rfl hl.1 rfl (lv_room (Nat.le_of_ble_eq_true rfl)) d_law_1590 ⟨by show cells + 1 + 0 ≤ 601024; omega, by show slots + 6 + 0 ≤ 7293034; omega⟩) (fun H locs hP hS => ?_)
  refine lv_istore (lv' := (6, .int ρ.1) :: (5, .int σ.1) :: lvs b z w oo x4) hx hb d_law_1593 hl (by decide) rfl (fun ls hl => ?_)
  refine law_tail K hP hl d_law_1595 d_law_1596 d_law_1599 d_law_1601 d_law_1606 d_law_1608 d_law_1611 d_law_1612 d_law_1613 d_law_1614 d_law_1616 d_law_1617 d_law_1618 d_law_1623 (by decide) ⟨by omega, by omega⟩ ow.1 ow.2.1 ?_
  refine W.widen (k := cells + 2) (n := slots + 12) (by omega) (by omega) ?_
  exact next _ _ _ _ H locs ls (ow.2.2.mono (by omega)) hP hS (lv_sub hl [2, 3, 4, 5, 6] rfl)
set_option maxHeartbeats 4000000 in
set_option maxRecDepth 100000 in
theorem law_c1626 : LCase 1626 := by
  intro p l e s m below meth c D cs z A adK adV w oo b L xs Q x4 w1 w2 w3 d Os T M g H locs cells slots ls K hi1 hi2 hi3 hw1 hw2 hw3 hR h7 h9 hP hS hl hc1 hc2 next
  have hx := K.hx
  have hb := K.hb
  have ok := rd_fetch (d := d) hR w1
  have k0 := c_L_fetch l D cs z A adK adV oo Os T g w1 K.hd K.ho K.hlst (okf_0 rfl ok)
  have k1 := c_X8_fetch l D cs w M w1 K.hm hR.mv
  have ow := okf_w g (by decide) ok
  unfold sL_fetch at k0
  obtain ⟨σ, hσ⟩ : ∃ y, (wr [1] ((sX7_fetch Os T w1).1, (sX7_fetch Os T w1).2, (Os, T)) g) = y := ⟨_, rfl⟩
  obtain ⟨ρ, hρ⟩ : ∃ y, (sX8_fetch M w1) = y := ⟨_, rfl⟩
  rw [hσ] at k0
  rw [hσ, hρ] at ow
  rw [hρ] at k1
  refine lv_aload_n hx hb d_law_1626 rfl (lv_at hl 1 rfl) ?_
  refine law_arg (v := 1) K hS (lv_sub hl [0, 4] rfl) d_law_1627 d_law_1628 d_law_1630 d_law_1631 d_law_1632 (by decide) hi1 hw1 ?_
  refine lv_aload_n hx hb d_law_1633 rfl (lv_at hl 3 rfl) ?_
  refine law_w K hP hS (vx_runSW (As := [.ref (z 0), .int w1, .ref oo]) (rest := []) ⟨hx, hb, K.hml, K.hown, K.hts⟩ k0 (vx_cwSW 3 K.hts (good_SW w_ml_L_198 w_st_L_fetch w_in_L w_co_L_fetch) rfl rfl rfl hd_L_fetch ⟨Nat.le_of_ble_eq_true rfl, Nat.le_of_ble_eq_true rfl⟩) (lwe_S K hP hS _) rfl rfl hl.1 rfl (lv_room (Nat.le_of_ble_eq_true rfl)) d_law_1634 ⟨by show cells + 1 ≤ 601024; omega, by show slots + 6 ≤ 7293034; omega⟩) (fun H locs hP hS => ?_)
  refine lv_istore (lv' := (5, .int σ.1) :: lvs b z w oo x4) hx hb d_law_1637 hl (by decide) rfl (fun ls hl => ?_)
  refine lv_aload_n hx hb d_law_1639 rfl (lv_at hl 3 rfl) ?_
  refine law_arg (v := 1) K hS (lv_sub hl [1, 5] rfl) d_law_1640 d_law_1641 d_law_1643 d_law_1644 d_law_1645 (by decide) hi1 hw1 ?_
  refine law_m K hP hS (va_runV (As := [.int w1]) (rest := []) ⟨hx, hb, K.hml, K.hown, K.hts⟩ k1 (cwV 1 K.hts (good_V w_ml_L_200 w_im_X8_fetch w_se_X8_fetch w_in_X8 w_co_X8_fetch) rfl rfl rfl ⟨rfl, hd_X8_fetch⟩ ⟨Nat.le_of_ble_eq_true rfl, Nat.le_of_ble_eq_true rfl⟩) (pe_V (ci := 8) (q0 := 0) hP.2.1 K.hE rfl rfl) rfl rfl hl.1 rfl (lv_room (Nat.le_of_ble_eq_true rfl)) d_law_1646 ⟨by show cells + 1 + 0 ≤ 601024; omega, by show slots + 6 + 0 ≤ 7293034; omega⟩) (fun H locs hP hS => ?_)
  refine lv_istore (lv' := (6, .int ρ.1) :: (5, .int σ.1) :: lvs b z w oo x4) hx hb d_law_1649 hl (by decide) rfl (fun ls hl => ?_)
  refine law_tail K hP hl d_law_1651 d_law_1652 d_law_1655 d_law_1657 d_law_1662 d_law_1664 d_law_1667 d_law_1668 d_law_1669 d_law_1670 d_law_1672 d_law_1673 d_law_1674 d_law_1679 (by decide) ⟨by omega, by omega⟩ ow.1 ow.2.1 ?_
  refine W.widen (k := cells + 2) (n := slots + 12) (by omega) (by omega) ?_
  exact next _ _ _ _ H locs ls (ow.2.2.mono (by omega)) hP hS (lv_sub hl [2, 3, 4, 5, 6] rfl)
set_option maxHeartbeats 4000000 in
set_option maxRecDepth 100000 in
theorem law_c1682 : LCase 1682 := by
  intro p l e s m below meth c D cs z A adK adV w oo b L xs Q x4 w1 w2 w3 d Os T M g H locs cells slots ls K hi1 hi2 hi3 hw1 hw2 hw3 hR h7 h9 hP hS hl hc1 hc2 next
  have hx := K.hx
  have hb := K.hb
  have ow := fc_worst (d := d) hR (by omega)
  have k0 := c_X7_worst l D cs z A adK adV Os T K.hd
  have k1 := c_X8_worst l D cs w M K.hm hR.mv
  obtain ⟨σ, hσ⟩ : ∃ y, sX7_worst Os T = y := ⟨_, rfl⟩
  obtain ⟨ρ, hρ⟩ : ∃ y, sX8_worst M = y := ⟨_, rfl⟩
  rw [hσ] at k0
  rw [hσ, hρ] at ow
  rw [hρ] at k1
  refine lv_aload_n hx hb d_law_1682 rfl (lv_at hl 1 rfl) ?_
  refine vp_callSi (run_c (va_runV (As := []) (rest := []) ⟨hx, hb, K.hml, K.hown, K.hts⟩ k0 (cwV 0 K.hts (good_V w_ml_L_201 w_im_X7_worst w_se_X7_worst w_in_X7 w_co_X7_worst) rfl rfl rfl ⟨rfl, hd_X7_worst⟩ ⟨Nat.le_of_ble_eq_true rfl, Nat.le_of_ble_eq_true rfl⟩) (te_V (C := RX7) (T9 := TX7) (N := 5) (ci := 7) (q0 := 0) hP.1 K.hE K.hXE (K.hSt hS) rfl rfl) rfl rfl hl.1 rfl (lv_room (Nat.le_of_ble_eq_true rfl)) d_law_1683 ⟨by show cells + 0 ≤ 601024; omega, by show slots + 0 ≤ 7293034; omega⟩)) (fun r hr => ?_)
  rw [hr]
  refine lv_aload_n hx hb d_law_1686 rfl (lv_at hl 2 rfl) ?_
  refine law_m K hP hS (va_runV (As := []) (rest := [.int σ]) ⟨hx, hb, K.hml, K.hown, K.hts⟩ k1 (cwV 0 K.hts (good_V w_ml_L_204 w_im_X8_worst w_se_X8_worst w_in_X8 w_co_X8_worst) rfl rfl rfl ⟨rfl, hd_X8_worst⟩ ⟨Nat.le_of_ble_eq_true rfl, Nat.le_of_ble_eq_true rfl⟩) (pe_V (ci := 8) (q0 := 0) hP.2.1 K.hE rfl rfl) rfl rfl hl.1 rfl (lv_room (Nat.le_of_ble_eq_true rfl)) d_law_1687 ⟨by show cells + 0 ≤ 601024; omega, by show slots + 0 ≤ 7293034; omega⟩) (fun H locs hP hS => ?_)
  refine lv_icmp_eq (tgt := 2075) hx hb d_law_1690 (by decide) (fun _ => ?_) (fun c9 => absurd ow.1 c9)
  refine W.widen (k := cells + 2) (n := slots + 12) (by omega) (by omega) ?_
  exact next _ _ _ _ H locs ls (ow.2.mono (by omega)) hP hS hl
set_option maxHeartbeats 4000000 in
set_option maxRecDepth 100000 in
theorem law_c1695 : LCase 1695 := by
  intro p l e s m below meth c D cs z A adK adV w oo b L xs Q x4 w1 w2 w3 d Os T M g H locs cells slots ls K hi1 hi2 hi3 hw1 hw2 hw3 hR h7 h9 hP hS hl hc1 hc2 next
  have hx := K.hx
  have hb := K.hb
  have ok := rd_common (d := d) hR w1 w2
  have k0 := c_L_common l D cs z A adK adV oo Os T g w1 w2 K.hd K.ho K.hlst (okf_0 rfl ok)
  have k1 := c_X8_common l D cs w M w1 w2 K.hm hR.mv
  have ow := okf_w g (by decide) ok
  unfold sL_common at k0
  obtain ⟨σ, hσ⟩ : ∃ y, (wr [3] ((sX7_common Os T w1 w2).1, (sX7_common Os T w1 w2).2, (Os, T)) g) = y := ⟨_, rfl⟩
  obtain ⟨ρ, hρ⟩ : ∃ y, (sX8_common M w1 w2) = y := ⟨_, rfl⟩
  rw [hσ] at k0
  rw [hσ, hρ] at ow
  rw [hρ] at k1
  refine lv_aload_n hx hb d_law_1695 rfl (lv_at hl 1 rfl) ?_
  refine law_arg (v := 1) K hS (lv_sub hl [0, 4] rfl) d_law_1696 d_law_1697 d_law_1699 d_law_1700 d_law_1701 (by decide) hi1 hw1 ?_
  refine law_arg (v := 2) K hS (lv_sub hl [0, 4] rfl) d_law_1702 d_law_1703 d_law_1705 d_law_1706 d_law_1707 (by decide) hi2 hw2 ?_
  refine lv_aload_n hx hb d_law_1708 rfl (lv_at hl 3 rfl) ?_
  refine law_w K hP hS (vx_runSW (As := [.ref (z 0), .int w1, .int w2, .ref oo]) (rest := []) ⟨hx, hb, K.hml, K.hown, K.hts⟩ k0 (vx_cwSW 4 K.hts (good_SW w_ml_L_205 w_st_L_common w_in_L w_co_L_common) rfl rfl rfl hd_L_common ⟨Nat.le_of_ble_eq_true rfl, Nat.le_of_ble_eq_true rfl⟩) (lwe_S K hP hS _) rfl rfl hl.1 rfl (lv_room (Nat.le_of_ble_eq_true rfl)) d_law_1709 ⟨by show cells + 2 ≤ 601024; omega, by show slots + 12 ≤ 7293034; omega⟩) (fun H locs hP hS => ?_)
  refine lv_istore (lv' := (5, .int σ.1) :: lvs b z w oo x4) hx hb d_law_1712 hl (by decide) rfl (fun ls hl => ?_)
  refine lv_aload_n hx hb d_law_1714 rfl (lv_at hl 3 rfl) ?_
  refine law_arg (v := 1) K hS (lv_sub hl [1, 5] rfl) d_law_1715 d_law_1716 d_law_1718 d_law_1719 d_law_1720 (by decide) hi1 hw1 ?_
  refine law_arg (v := 2) K hS (lv_sub hl [1, 5] rfl) d_law_1721 d_law_1722 d_law_1724 d_law_1725 d_law_1726 (by decide) hi2 hw2 ?_
  refine law_m K hP hS (va_runV (As := [.int w1, .int w2]) (rest := []) ⟨hx, hb, K.hml, K.hown, K.hts⟩ k1 (cwV 2 K.hts (good_V w_ml_L_207 w_im_X8_common w_se_X8_common w_in_X8 w_co_X8_common) rfl rfl rfl ⟨rfl, hd_X8_common⟩ ⟨Nat.le_of_ble_eq_true rfl, Nat.le_of_ble_eq_true rfl⟩) (pe_V (ci := 8) (q0 := 0) hP.2.1 K.hE rfl rfl) rfl rfl hl.1 rfl (lv_room (Nat.le_of_ble_eq_true rfl)) d_law_1727 ⟨by show cells + 2 + 0 ≤ 601024; omega, by show slots + 12 + 0 ≤ 7293034; omega⟩) (fun H locs hP hS => ?_)
  refine lv_istore (lv' := (6, .int ρ.1) :: (5, .int σ.1) :: lvs b z w oo x4) hx hb d_law_1730 hl (by decide) rfl (fun ls hl => ?_)
  refine law_tail K hP hl d_law_1732 d_law_1733 d_law_1736 d_law_1738 d_law_1743 d_law_1745 d_law_1748 d_law_1749 d_law_1750 d_law_1751 d_law_1753 d_law_1754 d_law_1755 d_law_1760 (by decide) ⟨by omega, by omega⟩ ow.1 ow.2.1 ?_
  refine W.widen (k := cells + 2) (n := slots + 12) (by omega) (by omega) ?_
  exact next _ _ _ _ H locs ls (ow.2.2.mono (by omega)) hP hS (lv_sub hl [2, 3, 4, 5, 6] rfl)
set_option maxHeartbeats 4000000 in
set_option maxRecDepth 100000 in
theorem law_c1763 : LCase 1763 := by
  intro p l e s m below meth c D cs z A adK adV w oo b L xs Q x4 w1 w2 w3 d Os T M g H locs cells slots ls K hi1 hi2 hi3 hw1 hw2 hw3 hR h7 h9 hP hS hl hc1 hc2 next
  have hx := K.hx
  have hb := K.hb
  have ok := fc_runScript (d := d) hR (by omega) w1 ((w2.toInt64 <<< ((32 : Int32).toInt64 &&& 63)) ||| (w3.toInt64 &&& 4294967295))
  have k0 := c_L_runScript l D cs z A adK adV oo Os T g w1 ((w2.toInt64 <<< ((32 : Int32).toInt64 &&& 63)) ||| (w3.toInt64 &&& 4294967295)) K.hd K.ho K.hlst (okf_0 rfl ok)
  have k1 := c_X8_runScript l D cs w M w1 ((w2.toInt64 <<< ((32 : Int32).toInt64 &&& 63)) ||| (w3.toInt64 &&& 4294967295)) K.hm hR.mv
  have ow := okf_w g (by decide) ok
  unfold sL_runScript at k0
  obtain ⟨σ, hσ⟩ : ∃ y, (wr [1] (sX7_runScript Os T w1 ((w2.toInt64 <<< ((32 : Int32).toInt64 &&& 63)) ||| (w3.toInt64 &&& 4294967295))) g) = y := ⟨_, rfl⟩
  obtain ⟨ρ, hρ⟩ : ∃ y, (sX8_runScript M w1 ((w2.toInt64 <<< ((32 : Int32).toInt64 &&& 63)) ||| (w3.toInt64 &&& 4294967295))) = y := ⟨_, rfl⟩
  rw [hσ] at k0
  rw [hσ, hρ] at ow
  rw [hρ] at k1
  refine lv_aload_n hx hb d_law_1763 rfl (lv_at hl 1 rfl) ?_
  refine law_arg (v := 1) K hS (lv_sub hl [0, 4] rfl) d_law_1764 d_law_1765 d_law_1767 d_law_1768 d_law_1769 (by decide) hi1 hw1 ?_
  refine law_arg (v := 2) K hS (lv_sub hl [0, 4] rfl) d_law_1770 d_law_1771 d_law_1773 d_law_1774 d_law_1775 (by decide) hi2 hw2 ?_
  refine lv_i2l hx hb d_law_1776 rfl ?_
  refine lv_bipush (v := 32) hx hb d_law_1777 (by decide) ?_
  refine lv_lshl hx hb d_law_1779 rfl ?_
  refine law_arg (v := 3) K hS (lv_sub hl [0, 4] rfl) d_law_1780 d_law_1781 d_law_1783 d_law_1784 d_law_1785 (by decide) hi3 hw3 ?_
  refine lv_i2l hx hb d_law_1786 rfl ?_
  refine lv_ldc2 hx hb K.hown (K.hts _ w_cn_L_208) d_law_1787 ?_
  refine lv_land hx hb d_law_1790 ?_
  refine lv_lor hx hb d_law_1791 ?_
  refine lv_aload_n hx hb d_law_1792 rfl (lv_at hl 3 rfl) ?_
  refine law_w K hP hS (vx_runSW (As := [.ref (z 0), .int w1, .long ((w2.toInt64 <<< ((32 : Int32).toInt64 &&& 63)) ||| (w3.toInt64 &&& 4294967295)), .ref oo]) (rest := []) ⟨hx, hb, K.hml, K.hown, K.hts⟩ k0 (vx_cwSW 4 K.hts (good_SW w_ml_L_210 w_st_L_runScript w_in_L w_co_L_runScript) rfl rfl rfl hd_L_runScript ⟨Nat.le_of_ble_eq_true rfl, Nat.le_of_ble_eq_true rfl⟩) (lwe_S K hP hS _) rfl rfl hl.1 rfl (lv_room (Nat.le_of_ble_eq_true rfl)) d_law_1793 ⟨by show cells + 1 ≤ 601024; omega, by show slots + 6 ≤ 7293034; omega⟩) (fun H locs hP hS => ?_)
  refine lv_istore (lv' := (5, .int σ.1) :: lvs b z w oo x4) hx hb d_law_1796 hl (by decide) rfl (fun ls hl => ?_)
  refine lv_aload_n hx hb d_law_1798 rfl (lv_at hl 3 rfl) ?_
  refine law_arg (v := 1) K hS (lv_sub hl [1, 5] rfl) d_law_1799 d_law_1800 d_law_1802 d_law_1803 d_law_1804 (by decide) hi1 hw1 ?_
  refine law_arg (v := 2) K hS (lv_sub hl [1, 5] rfl) d_law_1805 d_law_1806 d_law_1808 d_law_1809 d_law_1810 (by decide) hi2 hw2 ?_
  refine lv_i2l hx hb d_law_1811 rfl ?_
  refine lv_bipush (v := 32) hx hb d_law_1812 (by decide) ?_
  refine lv_lshl hx hb d_law_1814 rfl ?_
  refine law_arg (v := 3) K hS (lv_sub hl [1, 5] rfl) d_law_1815 d_law_1816 d_law_1818 d_law_1819 d_law_1820 (by decide) hi3 hw3 ?_
  refine lv_i2l hx hb d_law_1821 rfl ?_
  refine lv_ldc2 hx hb K.hown (K.hts _ w_cn_L_208) d_law_1822 ?_
  refine lv_land hx hb d_law_1825 ?_
  refine lv_lor hx hb d_law_1826 ?_
  refine law_m K hP hS (va_runV (As := [.int w1, .long ((w2.toInt64 <<< ((32 : Int32).toInt64 &&& 63)) ||| (w3.toInt64 &&& 4294967295))]) (rest := []) ⟨hx, hb, K.hml, K.hown, K.hts⟩ k1 (cwV 2 K.hts (good_V w_ml_L_213 w_im_X8_runScript w_se_X8_runScript w_in_X8 w_co_X8_runScript) rfl rfl rfl ⟨rfl, hd_X8_runScript⟩ ⟨Nat.le_of_ble_eq_true rfl, Nat.le_of_ble_eq_true rfl⟩) (pe_V (ci := 8) (q0 := 0) hP.2.1 K.hE rfl rfl) rfl rfl hl.1 rfl (lv_room (Nat.le_of_ble_eq_true rfl)) d_law_1827 ⟨by show cells + 1 + 0 ≤ 601024; omega, by show slots + 6 + 0 ≤ 7293034; omega⟩) (fun H locs hP hS => ?_)
  refine lv_istore (lv' := (6, .int ρ.1) :: (5, .int σ.1) :: lvs b z w oo x4) hx hb d_law_1830 hl (by decide) rfl (fun ls hl => ?_)
  refine law_tail K hP hl d_law_1832 d_law_1833 d_law_1836 d_law_1838 d_law_1843 d_law_1845 d_law_1848 d_law_1849 d_law_1850 d_law_1851 d_law_1853 d_law_1854 d_law_1855 d_law_1860 (by decide) ⟨by omega, by omega⟩ ow.1 ow.2.1 ?_
  refine W.widen (k := cells + 2) (n := slots + 12) (by omega) (by omega) ?_
  exact next _ _ _ _ H locs ls (ow.2.2.mono (by omega)) hP hS (lv_sub hl [2, 3, 4, 5, 6] rfl)
set_option maxHeartbeats 4000000 in
set_option maxRecDepth 100000 in
theorem law_c1863 : LCase 1863 := by
  intro p l e s m below meth c D cs z A adK adV w oo b L xs Q x4 w1 w2 w3 d Os T M g H locs cells slots ls K hi1 hi2 hi3 hw1 hw2 hw3 hR h7 h9 hP hS hl hc1 hc2 next
  have hx := K.hx
  have hb := K.hb
  have ok := fc_simulate (d := d) hR (by omega) ((w1.toInt64 <<< ((32 : Int32).toInt64 &&& 63)) ||| (w2.toInt64 &&& 4294967295)) w3
  have k0 := c_L_simulate l D cs z A adK adV oo Os T g ((w1.toInt64 <<< ((32 : Int32).toInt64 &&& 63)) ||| (w2.toInt64 &&& 4294967295)) w3 K.hd K.ho K.hlst (okf_0 rfl ok)
  have k1 := c_X8_simulate l D cs w M ((w1.toInt64 <<< ((32 : Int32).toInt64 &&& 63)) ||| (w2.toInt64 &&& 4294967295)) w3 K.hm hR.mv
  have ow := okf_w g (by decide) ok
  unfold sL_simulate at k0
  obtain ⟨σ, hσ⟩ : ∃ y, (wr [1] (sX7_simulate Os T ((w1.toInt64 <<< ((32 : Int32).toInt64 &&& 63)) ||| (w2.toInt64 &&& 4294967295)) w3) g) = y := ⟨_, rfl⟩
  obtain ⟨ρ, hρ⟩ : ∃ y, (sX8_simulate M ((w1.toInt64 <<< ((32 : Int32).toInt64 &&& 63)) ||| (w2.toInt64 &&& 4294967295)) w3) = y := ⟨_, rfl⟩
  rw [hσ] at k0
  rw [hσ, hρ] at ow
  rw [hρ] at k1
  refine lv_aload_n hx hb d_law_1863 rfl (lv_at hl 1 rfl) ?_
  refine law_arg (v := 1) K hS (lv_sub hl [0, 4] rfl) d_law_1864 d_law_1865 d_law_1867 d_law_1868 d_law_1869 (by decide) hi1 hw1 ?_
  refine lv_i2l hx hb d_law_1870 rfl ?_
  refine lv_bipush (v := 32) hx hb d_law_1871 (by decide) ?_
  refine lv_lshl hx hb d_law_1873 rfl ?_
  refine law_arg (v := 2) K hS (lv_sub hl [0, 4] rfl) d_law_1874 d_law_1875 d_law_1877 d_law_1878 d_law_1879 (by decide) hi2 hw2 ?_
  refine lv_i2l hx hb d_law_1880 rfl ?_
  refine lv_ldc2 hx hb K.hown (K.hts _ w_cn_L_208) d_law_1881 ?_
  refine lv_land hx hb d_law_1884 ?_
  refine lv_lor hx hb d_law_1885 ?_
  refine law_arg (v := 3) K hS (lv_sub hl [0, 4] rfl) d_law_1886 d_law_1887 d_law_1889 d_law_1890 d_law_1891 (by decide) hi3 hw3 ?_
  refine lv_aload_n hx hb d_law_1892 rfl (lv_at hl 3 rfl) ?_
  refine law_w K hP hS (vx_runSW (As := [.ref (z 0), .long ((w1.toInt64 <<< ((32 : Int32).toInt64 &&& 63)) ||| (w2.toInt64 &&& 4294967295)), .int w3, .ref oo]) (rest := []) ⟨hx, hb, K.hml, K.hown, K.hts⟩ k0 (vx_cwSW 4 K.hts (good_SW w_ml_L_214 w_st_L_simulate w_in_L w_co_L_simulate) rfl rfl rfl hd_L_simulate ⟨Nat.le_of_ble_eq_true rfl, Nat.le_of_ble_eq_true rfl⟩) (lwe_S K hP hS _) rfl rfl hl.1 rfl (lv_room (Nat.le_of_ble_eq_true rfl)) d_law_1893 ⟨by show cells + 1 ≤ 601024; omega, by show slots + 6 ≤ 7293034; omega⟩) (fun H locs hP hS => ?_)
  refine lv_istore (lv' := (5, .int σ.1) :: lvs b z w oo x4) hx hb d_law_1896 hl (by decide) rfl (fun ls hl => ?_)
  refine lv_aload_n hx hb d_law_1898 rfl (lv_at hl 3 rfl) ?_
  refine law_arg (v := 1) K hS (lv_sub hl [1, 5] rfl) d_law_1899 d_law_1900 d_law_1902 d_law_1903 d_law_1904 (by decide) hi1 hw1 ?_
  refine lv_i2l hx hb d_law_1905 rfl ?_
  refine lv_bipush (v := 32) hx hb d_law_1906 (by decide) ?_
  refine lv_lshl hx hb d_law_1908 rfl ?_
  refine law_arg (v := 2) K hS (lv_sub hl [1, 5] rfl) d_law_1909 d_law_1910 d_law_1912 d_law_1913 d_law_1914 (by decide) hi2 hw2 ?_
  refine lv_i2l hx hb d_law_1915 rfl ?_
  refine lv_ldc2 hx hb K.hown (K.hts _ w_cn_L_208) d_law_1916 ?_
  refine lv_land hx hb d_law_1919 ?_
  refine lv_lor hx hb d_law_1920 ?_
  refine law_arg (v := 3) K hS (lv_sub hl [1, 5] rfl) d_law_1921 d_law_1922 d_law_1924 d_law_1925 d_law_1926 (by decide) hi3 hw3 ?_
  refine law_m K hP hS (va_runV (As := [.long ((w1.toInt64 <<< ((32 : Int32).toInt64 &&& 63)) ||| (w2.toInt64 &&& 4294967295)), .int w3]) (rest := []) ⟨hx, hb, K.hml, K.hown, K.hts⟩ k1 (cwV 2 K.hts (good_V w_ml_L_217 w_im_X8_simulate w_se_X8_simulate w_in_X8 w_co_X8_simulate) rfl rfl rfl ⟨rfl, hd_X8_simulate⟩ ⟨Nat.le_of_ble_eq_true rfl, Nat.le_of_ble_eq_true rfl⟩) (pe_V (ci := 8) (q0 := 0) hP.2.1 K.hE rfl rfl) rfl rfl hl.1 rfl (lv_room (Nat.le_of_ble_eq_true rfl)) d_law_1927 ⟨by show cells + 1 + 0 ≤ 601024; omega, by show slots + 6 + 0 ≤ 7293034; omega⟩) (fun H locs hP hS => ?_)
  refine lv_istore (lv' := (6, .int ρ.1) :: (5, .int σ.1) :: lvs b z w oo x4) hx hb d_law_1930 hl (by decide) rfl (fun ls hl => ?_)
  refine law_tail K hP hl d_law_1932 d_law_1933 d_law_1936 d_law_1938 d_law_1943 d_law_1945 d_law_1948 d_law_1949 d_law_1950 d_law_1951 d_law_1953 d_law_1954 d_law_1955 d_law_1960 (by decide) ⟨by omega, by omega⟩ ow.1 ow.2.1 ?_
  refine W.widen (k := cells + 2) (n := slots + 12) (by omega) (by omega) ?_
  exact next _ _ _ _ H locs ls (ow.2.2.mono (by omega)) hP hS (lv_sub hl [2, 3, 4, 5, 6] rfl)
set_option maxHeartbeats 4000000 in
set_option maxRecDepth 100000 in
theorem law_c1963 : LCase 1963 := by
  intro p l e s m below meth c D cs z A adK adV w oo b L xs Q x4 w1 w2 w3 d Os T M g H locs cells slots ls K hi1 hi2 hi3 hw1 hw2 hw3 hR h7 h9 hP hS hl hc1 hc2 next
  have hx := K.hx
  have hb := K.hb
  have ok := fc_save (d := d) hR w1
  have k0 := c_L_save l D cs z A adK adV oo Os T g w1 K.hd K.ho K.hlst (okf_0 rfl ok)
  have k1 := c_X8_save l D cs w M w1 K.hm
  have ow := okf_w g (by decide) ok
  unfold sL_save at k0
  obtain ⟨σ, hσ⟩ : ∃ y, (wr [3] (sX7_save Os T w1) g) = y := ⟨_, rfl⟩
  obtain ⟨ρ, hρ⟩ : ∃ y, (sX8_save M w1) = y := ⟨_, rfl⟩
  rw [hσ] at k0
  rw [hσ, hρ] at ow
  rw [hρ] at k1
  refine lv_aload_n hx hb d_law_1963 rfl (lv_at hl 1 rfl) ?_
  refine law_arg (v := 1) K hS (lv_sub hl [0, 4] rfl) d_law_1964 d_law_1965 d_law_1967 d_law_1968 d_law_1969 (by decide) hi1 hw1 ?_
  refine lv_aload_n hx hb d_law_1970 rfl (lv_at hl 3 rfl) ?_
  refine law_w K hP hS (vx_runSW (As := [.ref (z 0), .int w1, .ref oo]) (rest := []) ⟨hx, hb, K.hml, K.hown, K.hts⟩ k0 (vx_cwSW 3 K.hts (good_SW w_ml_L_218 w_st_L_save w_in_L w_co_L_save) rfl rfl rfl hd_L_save ⟨Nat.le_of_ble_eq_true rfl, Nat.le_of_ble_eq_true rfl⟩) (lwe_S K hP hS _) rfl rfl hl.1 rfl (lv_room (Nat.le_of_ble_eq_true rfl)) d_law_1971 ⟨by show cells + 1 ≤ 601024; omega, by show slots + 6 ≤ 7293034; omega⟩) (fun H locs hP hS => ?_)
  refine lv_istore (lv' := (5, .int σ.1) :: lvs b z w oo x4) hx hb d_law_1974 hl (by decide) rfl (fun ls hl => ?_)
  refine lv_aload_n hx hb d_law_1976 rfl (lv_at hl 3 rfl) ?_
  refine law_arg (v := 1) K hS (lv_sub hl [1, 5] rfl) d_law_1977 d_law_1978 d_law_1980 d_law_1981 d_law_1982 (by decide) hi1 hw1 ?_
  refine law_m K hP hS (va_runV (As := [.int w1]) (rest := []) ⟨hx, hb, K.hml, K.hown, K.hts⟩ k1 (cwV 1 K.hts (good_V w_ml_L_220 w_im_X8_save w_se_X8_save w_in_X8 w_co_X8_save) rfl rfl rfl ⟨rfl, hd_X8_save⟩ ⟨Nat.le_of_ble_eq_true rfl, Nat.le_of_ble_eq_true rfl⟩) (pe_V (ci := 8) (q0 := 0) hP.2.1 K.hE rfl rfl) rfl rfl hl.1 rfl (lv_room (Nat.le_of_ble_eq_true rfl)) d_law_1983 ⟨by show cells + 1 + 0 ≤ 601024; omega, by show slots + 6 + 0 ≤ 7293034; omega⟩) (fun H locs hP hS => ?_)
  refine lv_istore (lv' := (6, .int ρ.1) :: (5, .int σ.1) :: lvs b z w oo x4) hx hb d_law_1986 hl (by decide) rfl (fun ls hl => ?_)
  refine law_tail K hP hl d_law_1988 d_law_1989 d_law_1992 d_law_1994 d_law_1999 d_law_2001 d_law_2004 d_law_2005 d_law_2006 d_law_2007 d_law_2009 d_law_2010 d_law_2011 d_law_2016 (by decide) ⟨by omega, by omega⟩ ow.1 ow.2.1 ?_
  refine W.widen (k := cells + 2) (n := slots + 12) (by omega) (by omega) ?_
  exact next _ _ _ _ H locs ls (ow.2.2.mono (by omega)) hP hS (lv_sub hl [2, 3, 4, 5, 6] rfl)
set_option maxHeartbeats 4000000 in
set_option maxRecDepth 100000 in
theorem law_c2019 : LCase 2019 := by
  intro p l e s m below meth c D cs z A adK adV w oo b L xs Q x4 w1 w2 w3 d Os T M g H locs cells slots ls K hi1 hi2 hi3 hw1 hw2 hw3 hR h7 h9 hP hS hl hc1 hc2 next
  have hx := K.hx
  have hb := K.hb
  have ok := fc_restore (d := d) hR w1
  have k0 := c_L_restore l D cs z A adK adV oo Os T g w1 K.hd K.ho K.hlst (okf_2 rfl ok)
  have k1 := c_X8_restore l D cs w M w1 K.hm
  have ow := okf_w g (by decide) ok
  unfold sL_restore at k0
  obtain ⟨σ, hσ⟩ : ∃ y, (wr [3, 2] (sX7_restore Os T w1) g) = y := ⟨_, rfl⟩
  obtain ⟨ρ, hρ⟩ : ∃ y, (sX8_restore M w1) = y := ⟨_, rfl⟩
  rw [hσ] at k0
  rw [hσ, hρ] at ow
  rw [hρ] at k1
  refine lv_aload_n hx hb d_law_2019 rfl (lv_at hl 1 rfl) ?_
  refine law_arg (v := 1) K hS (lv_sub hl [0, 4] rfl) d_law_2020 d_law_2021 d_law_2023 d_law_2024 d_law_2025 (by decide) hi1 hw1 ?_
  refine lv_aload_n hx hb d_law_2026 rfl (lv_at hl 3 rfl) ?_
  refine law_w K hP hS (vx_runSW (As := [.ref (z 0), .int w1, .ref oo]) (rest := []) ⟨hx, hb, K.hml, K.hown, K.hts⟩ k0 (vx_cwSW 3 K.hts (good_SW w_ml_L_221 w_st_L_restore w_in_L w_co_L_restore) rfl rfl rfl hd_L_restore ⟨Nat.le_of_ble_eq_true rfl, Nat.le_of_ble_eq_true rfl⟩) (lwe_S K hP hS _) rfl rfl hl.1 rfl (lv_room (Nat.le_of_ble_eq_true rfl)) d_law_2027 ⟨by show cells + 1 ≤ 601024; omega, by show slots + 6 ≤ 7293034; omega⟩) (fun H locs hP hS => ?_)
  refine lv_istore (lv' := (5, .int σ.1) :: lvs b z w oo x4) hx hb d_law_2030 hl (by decide) rfl (fun ls hl => ?_)
  refine lv_aload_n hx hb d_law_2032 rfl (lv_at hl 3 rfl) ?_
  refine law_arg (v := 1) K hS (lv_sub hl [1, 5] rfl) d_law_2033 d_law_2034 d_law_2036 d_law_2037 d_law_2038 (by decide) hi1 hw1 ?_
  refine law_m K hP hS (va_runV (As := [.int w1]) (rest := []) ⟨hx, hb, K.hml, K.hown, K.hts⟩ k1 (cwV 1 K.hts (good_V w_ml_L_223 w_im_X8_restore w_se_X8_restore w_in_X8 w_co_X8_restore) rfl rfl rfl ⟨rfl, hd_X8_restore⟩ ⟨Nat.le_of_ble_eq_true rfl, Nat.le_of_ble_eq_true rfl⟩) (pe_V (ci := 8) (q0 := 0) hP.2.1 K.hE rfl rfl) rfl rfl hl.1 rfl (lv_room (Nat.le_of_ble_eq_true rfl)) d_law_2039 ⟨by show cells + 1 + 0 ≤ 601024; omega, by show slots + 6 + 0 ≤ 7293034; omega⟩) (fun H locs hP hS => ?_)
  refine lv_istore (lv' := (6, .int ρ.1) :: (5, .int σ.1) :: lvs b z w oo x4) hx hb d_law_2042 hl (by decide) rfl (fun ls hl => ?_)
  refine law_tail K hP hl d_law_2044 d_law_2045 d_law_2048 d_law_2050 d_law_2055 d_law_2057 d_law_2060 d_law_2061 d_law_2062 d_law_2063 d_law_2065 d_law_2066 d_law_2067 d_law_2072 (by decide) ⟨by omega, by omega⟩ ow.1 ow.2.1 ?_
  refine W.widen (k := cells + 2) (n := slots + 12) (by omega) (by omega) ?_
  exact next _ _ _ _ H locs ls (ow.2.2.mono (by omega)) hP hS (lv_sub hl [2, 3, 4, 5, 6] rfl)
