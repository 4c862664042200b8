theorem hd_X1_clear : yX1_clear.cls ≠ "java/lang/invoke/MethodHandle" ∧ yX1_clear.cls ≠ "java/lang/invoke/VarHandle" ∧ (parseMethodDescriptor yX1_clear.desc).map (fun d => d.parameters.length) = some 0 := by decide +kernel
def sX1_clear (O : OF) : OF := (stS (stS (stA (stA (stA (sX6_clear (sX3_clear (sX4_clear O))) 4 (upd ((sX6_clear (sX3_clear (sX4_clear O))).2 4) (0 : Int32).toNatClampNeg 3)) 4 (upd (upd ((sX6_clear (sX3_clear (sX4_clear O))).2 4) (0 : Int32).toNatClampNeg 3) (1 : Int32).toNatClampNeg 1)) 4 (upd (upd (upd ((sX6_clear (sX3_clear (sX4_clear O))).2 4) (0 : Int32).toNatClampNeg 3) (1 : Int32).toNatClampNeg 1) (2 : Int32).toNatClampNeg 5)) 5 0) 6 0)
set_option maxHeartbeats 4000000 in
set_option maxRecDepth 100000 in
theorem c_X1_clear (l : Launch) (D : va_G) (cs : Nat → ClassId) (a : Nat → Nat) (O : OF) (hd : oD a) : Met l yX1_clear (wc yX1_clear cX1_clear 1 none) ({ frames := 1, cells := 0, slots := 0, locals := 20 } : Room) (va_Pc [.ref (a 0)] (PE D cs (ofW cs a O))) (va_Qv (fun u : OF => u = (sX1_clear O)) (fun u t => va_P D vwC (ofW cs a u) t.heap) (oA a)) 0 0 (oA a) := by
  obtain ⟨v, hv⟩ : ∃ v, sX1_clear O = v := ⟨_, rfl⟩
  rw [hv]
  refine met_o (lv := [(0, .ref (a 0))]) (by decide) (Nat.le_of_ble_eq_true rfl) rfl ?_
  intro p e s m args below meth c ls hx hb hr hml hts hown hlocks hin hP hE hl
  have hown : s.vm.findClass RX1 = some m.cls := hown
  have hK := hE.1
  have hP : va_P D vwC (ofW cs a O) s.heap := hP
  have hS : va_S (oA a) s.heap s.heap [] := va_S.rf
  unfold sX1_clear at hv
  refine lv_aload_n hx hb dX1_clear_0 rfl (lv_at hl 0 rfl) ?_
  refine va_get (D := D) (ci := 1) (v := .ref (a 1)) (C := RX1) (T := TX1) (N := 6) hx hb hts iw_X1 hown hK hP 0 rfl rfl 0 (by decide) (hts _ w_fl_X1_12) (fun _ h9 => h9) rfl dX1_clear_1 ?_
  refine w_v (sX4_clear O) (va_runV (As := []) (rest := []) ⟨hx, hb, hml, hown, hts⟩ (c_X4_clear l D cs a O hd) (cwV 0 hts (good_V w_ml_X1_39 w_im_X4_clear w_se_X4_clear w_in_X4 w_co_X4_clear) rfl rfl rfl ⟨rfl, hd_X4_clear⟩ ⟨Nat.le_of_ble_eq_true rfl, Nat.le_of_ble_eq_true rfl⟩) (pe_W (C := RX4) (T := TX4) (N := 5) (ci := 4) (q0 := 1) hP hE rfl rfl) rfl rfl hl.1 rfl (lv_room (Nat.le_of_ble_eq_true rfl)) dX1_clear_4 ⟨Nat.zero_le _, Nat.zero_le _⟩) hS (fun _ _ h => h) (fun _ h => h) (fun t locs hB hz hk hS => ?_)
  have hP : va_P D vwC (ofW cs a (sX4_clear O)) t.heap := hB
  refine lv_aload_n hx hb dX1_clear_7 rfl (lv_at hl 0 rfl) ?_
  refine va_get (D := D) (ci := 1) (v := .ref (a 2)) (C := RX1) (T := TX1) (N := 6) hx hb hts iw_X1 hown hK hP 0 rfl rfl 1 (by decide) (hts _ w_fl_X1_21) (fun _ h9 => h9) rfl dX1_clear_8 ?_
  refine w_v (sX3_clear (sX4_clear O)) (va_runV (As := []) (rest := []) ⟨hx, hb, hml, hown, hts⟩ (c_X3_clear l D cs a (sX4_clear O) hd) (cwV 0 hts (good_V w_ml_X1_40 w_im_X3_clear w_se_X3_clear w_in_X3 w_co_X3_clear) rfl rfl rfl ⟨rfl, hd_X3_clear⟩ ⟨Nat.le_of_ble_eq_true rfl, Nat.le_of_ble_eq_true rfl⟩) (pe_W (C := RX3) (T := TX3) (N := 8) (ci := 3) (q0 := 2) hP hE rfl rfl) rfl rfl hl.1 rfl (lv_room (Nat.le_of_ble_eq_true rfl)) dX1_clear_11 ⟨Nat.zero_le _, Nat.zero_le _⟩) hS (fun _ _ h => h) (fun _ h => h) (fun t locs hB hz hk hS => ?_)
  have hP : va_P D vwC (ofW cs a (sX3_clear (sX4_clear O))) t.heap := hB
  refine lv_aload_n hx hb dX1_clear_14 rfl (lv_at hl 0 rfl) ?_
  refine va_get (D := D) (ci := 1) (v := .ref (a 3)) (C := RX1) (T := TX1) (N := 6) hx hb hts iw_X1 hown hK hP 0 rfl rfl 2 (by decide) (hts _ w_fl_X1_28) (fun _ h9 => h9) rfl dX1_clear_15 ?_
  refine w_v (sX6_clear (sX3_clear (sX4_clear O))) (va_runV (As := []) (rest := []) ⟨hx, hb, hml, hown, hts⟩ (c_X6_clear l D cs a (sX3_clear (sX4_clear O)) hd) (cwV 0 hts (good_V w_ml_X1_41 w_im_X6_clear w_se_X6_clear w_in_X6 w_co_X6_clear) rfl rfl rfl ⟨rfl, hd_X6_clear⟩ ⟨Nat.le_of_ble_eq_true rfl, Nat.le_of_ble_eq_true rfl⟩) (pe_W (C := RX6) (T := TX6) (N := 5) (ci := 6) (q0 := 3) hP hE rfl rfl) rfl rfl hl.1 rfl (lv_room (Nat.le_of_ble_eq_true rfl)) dX1_clear_18 ⟨Nat.zero_le _, Nat.zero_le _⟩) hS (fun _ _ h => h) (fun _ h => h) (fun t locs hB hz hk hS => ?_)
  have hP : va_P D vwC (ofW cs a (sX6_clear (sX3_clear (sX4_clear O)))) t.heap := hB
  refine lv_aload_n hx hb dX1_clear_21 rfl (lv_at hl 0 rfl) ?_
  refine va_get (D := D) (ci := 1) (v := .ref (a 4)) (C := RX1) (T := TX1) (N := 6) hx hb hts iw_X1 hown hK hP 0 rfl rfl 3 (by decide) (hts _ w_fl_X1_32) (fun _ h9 => h9) rfl dX1_clear_22 ?_
  refine lv_iconst (v := 0) hx hb dX1_clear_25 (by decide) ?_
  refine lv_iconst (v := 3) hx hb dX1_clear_26 (by decide) ?_
  refine va_iast (cA := cs 0) (n := 3) (f := ((sX6_clear (sX3_clear (sX4_clear O))).2 4)) hx hb hK hP (of_D cs (sX6_clear (sX3_clear (sX4_clear O))) hd) hS 4 0 rfl rfl (by unfold vp_in; decide) dX1_clear_27 (fun H locs hP _ hS => ?_)
  have hP : va_P D vwC (ofW cs a (stA (sX6_clear (sX3_clear (sX4_clear O))) 4 (upd ((sX6_clear (sX3_clear (sX4_clear O))).2 4) (0 : Int32).toNatClampNeg 3))) H := hP
  refine lv_aload_n hx hb dX1_clear_28 rfl (lv_at hl 0 rfl) ?_
  refine va_get (D := D) (ci := 1) (v := .ref (a 4)) (C := RX1) (T := TX1) (N := 6) hx hb hts iw_X1 hown hK hP 0 rfl rfl 3 (by decide) (hts _ w_fl_X1_32) (fun _ h9 => h9) rfl dX1_clear_29 ?_
  refine lv_iconst (v := 1) hx hb dX1_clear_32 (by decide) ?_
  refine lv_iconst (v := 1) hx hb dX1_clear_33 (by decide) ?_
  refine va_iast (cA := cs 0) (n := 3) (f := (upd ((sX6_clear (sX3_clear (sX4_clear O))).2 4) (0 : Int32).toNatClampNeg 3)) hx hb hK hP (of_D cs (stA (sX6_clear (sX3_clear (sX4_clear O))) 4 (upd ((sX6_clear (sX3_clear (sX4_clear O))).2 4) (0 : Int32).toNatClampNeg 3)) hd) hS 4 0 rfl rfl (by unfold vp_in; decide) dX1_clear_34 (fun H locs hP _ hS => ?_)
  have hP : va_P D vwC (ofW cs a (stA (stA (sX6_clear (sX3_clear (sX4_clear O))) 4 (upd ((sX6_clear (sX3_clear (sX4_clear O))).2 4) (0 : Int32).toNatClampNeg 3)) 4 (upd (upd ((sX6_clear (sX3_clear (sX4_clear O))).2 4) (0 : Int32).toNatClampNeg 3) (1 : Int32).toNatClampNeg 1))) H := hP
  refine lv_aload_n hx hb dX1_clear_35 rfl (lv_at hl 0 rfl) ?_
  refine va_get (D := D) (ci := 1) (v := .ref (a 4)) (C := RX1) (T := TX1) (N := 6) hx hb hts iw_X1 hown hK hP 0 rfl rfl 3 (by decide) (hts _ w_fl_X1_32) (fun _ h9 => h9) rfl dX1_clear_36 ?_
  refine lv_iconst (v := 2) hx hb dX1_clear_39 (by decide) ?_
  refine lv_iconst (v := 5) hx hb dX1_clear_40 (by decide) ?_
  refine va_iast (cA := cs 0) (n := 3) (f := (upd (upd ((sX6_clear (sX3_clear (sX4_clear O))).2 4) (0 : Int32).toNatClampNeg 3) (1 : Int32).toNatClampNeg 1)) hx hb hK hP (of_D cs (stA (stA (sX6_clear (sX3_clear (sX4_clear O))) 4 (upd ((sX6_clear (sX3_clear (sX4_clear O))).2 4) (0 : Int32).toNatClampNeg 3)) 4 (upd (upd ((sX6_clear (sX3_clear (sX4_clear O))).2 4) (0 : Int32).toNatClampNeg 3) (1 : Int32).toNatClampNeg 1)) hd) hS 4 0 rfl rfl (by unfold vp_in; decide) dX1_clear_41 (fun H locs hP _ hS => ?_)
  have hP : va_P D vwC (ofW cs a (stA (stA (stA (sX6_clear (sX3_clear (sX4_clear O))) 4 (upd ((sX6_clear (sX3_clear (sX4_clear O))).2 4) (0 : Int32).toNatClampNeg 3)) 4 (upd (upd ((sX6_clear (sX3_clear (sX4_clear O))).2 4) (0 : Int32).toNatClampNeg 3) (1 : Int32).toNatClampNeg 1)) 4 (upd (upd (upd ((sX6_clear (sX3_clear (sX4_clear O))).2 4) (0 : Int32).toNatClampNeg 3) (1 : Int32).toNatClampNeg 1) (2 : Int32).toNatClampNeg 5))) H := hP
  refine lv_aload_n hx hb dX1_clear_42 rfl (lv_at hl 0 rfl) ?_
  refine lv_iconst (v := 0) hx hb dX1_clear_43 (by decide) ?_
  refine va_put (D := D) (ci := 1) (v := .int 0) (ty := .int) (C := RX1) (T := TX1) (N := 6) hx hb hts iw_X1 tyX1 tyX1_ok nmX1 hown hK hP (of_D cs (stA (stA (stA (sX6_clear (sX3_clear (sX4_clear O))) 4 (upd ((sX6_clear (sX3_clear (sX4_clear O))).2 4) (0 : Int32).toNatClampNeg 3)) 4 (upd (upd ((sX6_clear (sX3_clear (sX4_clear O))).2 4) (0 : Int32).toNatClampNeg 3) (1 : Int32).toNatClampNeg 1)) 4 (upd (upd (upd ((sX6_clear (sX3_clear (sX4_clear O))).2 4) (0 : Int32).toNatClampNeg 3) (1 : Int32).toNatClampNeg 1) (2 : Int32).toNatClampNeg 5)) hd) hS 0 rfl rfl 4 (by decide) (hts _ w_fl_X1_42) (fun _ h9 => h9) rfl (by decide +kernel) rfl rfl (Nat.le_of_ble_eq_true rfl) dX1_clear_44 (fun H locs hP _ hS => ?_)
  have hP : va_P D vwC (ofW cs a (stS (stA (stA (stA (sX6_clear (sX3_clear (sX4_clear O))) 4 (upd ((sX6_clear (sX3_clear (sX4_clear O))).2 4) (0 : Int32).toNatClampNeg 3)) 4 (upd (upd ((sX6_clear (sX3_clear (sX4_clear O))).2 4) (0 : Int32).toNatClampNeg 3) (1 : Int32).toNatClampNeg 1)) 4 (upd (upd (upd ((sX6_clear (sX3_clear (sX4_clear O))).2 4) (0 : Int32).toNatClampNeg 3) (1 : Int32).toNatClampNeg 1) (2 : Int32).toNatClampNeg 5)) 5 0)) H := hP
  refine lv_aload_n hx hb dX1_clear_47 rfl (lv_at hl 0 rfl) ?_
  refine lv_iconst (v := 0) hx hb dX1_clear_48 (by decide) ?_
  refine va_put (D := D) (ci := 1) (v := .int 0) (ty := .int) (C := RX1) (T := TX1) (N := 6) hx hb hts iw_X1 tyX1 tyX1_ok nmX1 hown hK hP (of_D cs (stS (stA (stA (stA (sX6_clear (sX3_clear (sX4_clear O))) 4 (upd ((sX6_clear (sX3_clear (sX4_clear O))).2 4) (0 : Int32).toNatClampNeg 3)) 4 (upd (upd ((sX6_clear (sX3_clear (sX4_clear O))).2 4) (0 : Int32).toNatClampNeg 3) (1 : Int32).toNatClampNeg 1)) 4 (upd (upd (upd ((sX6_clear (sX3_clear (sX4_clear O))).2 4) (0 : Int32).toNatClampNeg 3) (1 : Int32).toNatClampNeg 1) (2 : Int32).toNatClampNeg 5)) 5 0) hd) hS 0 rfl rfl 5 (by decide) (hts _ w_fl_X1_46) (fun _ h9 => h9) rfl (by decide +kernel) rfl rfl (Nat.le_of_ble_eq_true rfl) dX1_clear_49 (fun H locs hP _ hS => ?_)
  have hP : va_P D vwC (ofW cs a (stS (stS (stA (stA (stA (sX6_clear (sX3_clear (sX4_clear O))) 4 (upd ((sX6_clear (sX3_clear (sX4_clear O))).2 4) (0 : Int32).toNatClampNeg 3)) 4 (upd (upd ((sX6_clear (sX3_clear (sX4_clear O))).2 4) (0 : Int32).toNatClampNeg 3) (1 : Int32).toNatClampNeg 1)) 4 (upd (upd (upd ((sX6_clear (sX3_clear (sX4_clear O))).2 4) (0 : Int32).toNatClampNeg 3) (1 : Int32).toNatClampNeg 1) (2 : Int32).toNatClampNeg 5)) 5 0) 6 0)) H := hP
  exact W.vret hx hb hr (fun t ht hW => ⟨⟨(stS (stS (stA (stA (stA (sX6_clear (sX3_clear (sX4_clear O))) 4 (upd ((sX6_clear (sX3_clear (sX4_clear O))).2 4) (0 : Int32).toNatClampNeg 3)) 4 (upd (upd ((sX6_clear (sX3_clear (sX4_clear O))).2 4) (0 : Int32).toNatClampNeg 3) (1 : Int32).toNatClampNeg 1)) 4 (upd (upd (upd ((sX6_clear (sX3_clear (sX4_clear O))).2 4) (0 : Int32).toNatClampNeg 3) (1 : Int32).toNatClampNeg 1) (2 : Int32).toNatClampNeg 5)) 5 0) 6 0), rfl, hv, pw ht hP⟩, hS.F ht⟩) hS.2.2 dX1_clear_52 (hlocks := hlocks)
theorem hd_X1_addSheet : yX1_addSheet.cls ≠ "java/lang/invoke/MethodHandle" ∧ yX1_addSheet.cls ≠ "java/lang/invoke/VarHandle" ∧ (parseMethodDescriptor yX1_addSheet.desc).map (fun d => d.parameters.length) = some 1 := by decide +kernel
def sX1_addSheet (O : OF) (p1 : Int32) : Int32 × OF := (if p1 = (-1) then ((sX4_add O p1).1, ((sX4_add O p1).2)) else (if (sX4_has O p1) = true then ((sX4_add O p1).1, ((sX4_add O p1).2)) else ((-2), O)))
set_option maxHeartbeats 4000000 in
set_option maxRecDepth 100000 in
theorem c_X1_addSheet (l : Launch) (D : va_G) (cs : Nat → ClassId) (a : Nat → Nat) (O : OF) (p1 : Int32) (hd : oD a) : Met l yX1_addSheet (wc yX1_addSheet cX1_addSheet 2 (some .int)) ({ frames := 1, cells := 0, slots := 0, locals := 23 } : Room) (va_Pc [.ref (a 0), .int p1] (PE D cs (ofW cs a O))) (va_Qi (fun (r9 : Int32) (u : OF) => r9 = (sX1_addSheet O p1).1 ∧ u = (sX1_addSheet O p1).2) (fun u t => va_P D vwC (ofW cs a u) t.heap) (oA a)) 0 0 (oA a) := by
  obtain ⟨v, hv⟩ : ∃ v, sX1_addSheet O p1 = v := ⟨_, rfl⟩
  rw [hv]
  refine met_o (lv := [(0, .ref (a 0)), (1, .int p1)]) (by decide) (Nat.le_of_ble_eq_true rfl) rfl ?_
  intro p e s m args below meth c ls hx hb hr hml hts hown hlocks hin hP hE hl
  have hown : s.vm.findClass RX1 = some m.cls := hown
  have hK := hE.1
  have hP : va_P D vwC (ofW cs a O) s.heap := hP
  have hS : va_S (oA a) s.heap s.heap [] := va_S.rf
  unfold sX1_addSheet at hv
  refine lv_iload_n hx hb dX1_addSheet_0 rfl (lv_at hl 1 rfl) ?_
  refine lv_iconst (v := (-1)) hx hb dX1_addSheet_1 (by decide) ?_
  refine lv_icmp_eq (tgt := 19) hx hb dX1_addSheet_2 (by decide) (fun c2 => ?_) (fun c2 => ?_)
  · have hv := (if_pos c2).symm.trans hv
    refine lv_aload_n hx hb dX1_addSheet_19 rfl (lv_at hl 0 rfl) ?_
    refine va_get (D := D) (ci := 1) (v := .ref (a 1)) (C := RX1) (T := TX1) (N := 6) hx hb hts iw_X1 hown hK hP 0 rfl rfl 0 (by decide) (hts _ w_fl_X1_12) (fun _ h9 => h9) rfl dX1_addSheet_20 ?_
    refine lv_iload_n hx hb dX1_addSheet_23 rfl (lv_at hl 1 rfl) ?_
    refine w_i (sX4_add O p1) (va_runV (As := [.int p1]) (rest := []) ⟨hx, hb, hml, hown, hts⟩ (c_X4_add l D cs a O p1 hd) (cwV 1 hts (good_V w_ml_X1_162 w_im_X4_add w_se_X4_add w_in_X4 w_co_X4_add) rfl rfl rfl ⟨rfl, hd_X4_add⟩ ⟨Nat.le_of_ble_eq_true rfl, Nat.le_of_ble_eq_true rfl⟩) (pe_W (C := RX4) (T := TX4) (N := 5) (ci := 4) (q0 := 1) hP hE rfl rfl) rfl rfl hl.1 rfl (lv_room (Nat.le_of_ble_eq_true rfl)) dX1_addSheet_24 ⟨Nat.zero_le _, Nat.zero_le _⟩) hS (fun _ _ h => h) (fun _ h => h) (fun t locs hB hz hk hS => ?_)
    have hP : va_P D vwC (ofW cs a ((sX4_add O p1).2)) t.heap := hB
    exact W.iret (v := (sX4_add O p1).1) hx hb hr (fun t ht hW => ⟨⟨(sX4_add O p1).1, ((sX4_add O p1).2), rfl, pair_eq hv, pw ht hP⟩, hS.F ht⟩) hS.2.2 dX1_addSheet_27 (hlocks := hlocks)
  · have hv := (if_neg c2).symm.trans hv
    refine lv_aload_n hx hb dX1_addSheet_5 rfl (lv_at hl 0 rfl) ?_
    refine va_get (D := D) (ci := 1) (v := .ref (a 1)) (C := RX1) (T := TX1) (N := 6) hx hb hts iw_X1 hown hK hP 0 rfl rfl 0 (by decide) (hts _ w_fl_X1_12) (fun _ h9 => h9) rfl dX1_addSheet_6 ?_
    refine lv_iload_n hx hb dX1_addSheet_9 rfl (lv_at hl 1 rfl) ?_
    refine ro_i (b2i (sX4_has O p1)) (run_c (va_runV (As := [.int p1]) (rest := []) ⟨hx, hb, hml, hown, hts⟩ (c_X4_has l D cs a O p1) (cwV 1 hts (good_V w_ml_X1_159 w_im_X4_has w_se_X4_has w_in_X4 w_co_X4_has) rfl rfl rfl ⟨rfl, hd_X4_has⟩ ⟨Nat.le_of_ble_eq_true rfl, Nat.le_of_ble_eq_true rfl⟩) (pe_W (C := RX4) (T := TX4) (N := 5) (ci := 4) (q0 := 1) hP hE rfl rfl) rfl rfl hl.1 rfl (lv_room (Nat.le_of_ble_eq_true rfl)) dX1_addSheet_10 ⟨Nat.zero_le _, Nat.zero_le _⟩)) ?_
    refine lv_if_ne (tgt := 19) hx hb dX1_addSheet_13 (by decide) (fun c13 => ?_) (fun c13 => ?_)
    · have c13 := b2i_t c13
      have hv := (if_pos c13).symm.trans hv
      refine lv_aload_n hx hb dX1_addSheet_19 rfl (lv_at hl 0 rfl) ?_
      refine va_get (D := D) (ci := 1) (v := .ref (a 1)) (C := RX1) (T := TX1) (N := 6) hx hb hts iw_X1 hown hK hP 0 rfl rfl 0 (by decide) (hts _ w_fl_X1_12) (fun _ h9 => h9) rfl dX1_addSheet_20 ?_
      refine lv_iload_n hx hb dX1_addSheet_23 rfl (lv_at hl 1 rfl) ?_
      refine w_i (sX4_add O p1) (va_runV (As := [.int p1]) (rest := []) ⟨hx, hb, hml, hown, hts⟩ (c_X4_add l D cs a O p1 hd) (cwV 1 hts (good_V w_ml_X1_162 w_im_X4_add w_se_X4_add w_in_X4 w_co_X4_add) rfl rfl rfl ⟨rfl, hd_X4_add⟩ ⟨Nat.le_of_ble_eq_true rfl, Nat.le_of_ble_eq_true rfl⟩) (pe_W (C := RX4) (T := TX4) (N := 5) (ci := 4) (q0 := 1) hP hE rfl rfl) rfl rfl hl.1 rfl (lv_room (Nat.le_of_ble_eq_true rfl)) dX1_addSheet_24 ⟨Nat.zero_le _, Nat.zero_le _⟩) hS (fun _ _ h => h) (fun _ h => h) (fun t locs hB hz hk hS => ?_)
      have hP : va_P D vwC (ofW cs a ((sX4_add O p1).2)) t.heap := hB
      exact W.iret (v := (sX4_add O p1).1) hx hb hr (fun t ht hW => ⟨⟨(sX4_add O p1).1, ((sX4_add O p1).2), rfl, pair_eq hv, pw ht hP⟩, hS.F ht⟩) hS.2.2 dX1_addSheet_27 (hlocks := hlocks)
    · have c13 := b2i_f c13
      have hv := (if_neg c13).symm.trans hv
      refine lv_bipush (v := (-2)) hx hb dX1_addSheet_16 (by decide) ?_
      exact W.iret (v := (-2)) hx hb hr (fun t ht hW => ⟨⟨(-2), O, rfl, pair_eq hv, pw ht hP⟩, hS.F ht⟩) hS.2.2 dX1_addSheet_18 (hlocks := hlocks)
theorem hd_X1_reviseSheet : yX1_reviseSheet.cls ≠ "java/lang/invoke/MethodHandle" ∧ yX1_reviseSheet.cls ≠ "java/lang/invoke/VarHandle" ∧ (parseMethodDescriptor yX1_reviseSheet.desc).map (fun d => d.parameters.length) = some 2 := by decide +kernel
def sX1_reviseSheet (O : OF) (p1 : Int32) (p2 : Int32) : Int32 × OF := (if (sX4_has O p1) = true then (if (sX7_isCloud p2) = true then (if (sX4_revisionOf O p1) < 99 then (sX3_recallCountOf O p1, (sX4_drawAnew (sX3_recallAllOf O p1 ((O.1 5) + ((O.2 4) (0 : Int32).toNatClampNeg))) p1 p2)) else ((-4), O)) else ((-3), O)) else ((-2), O))
set_option maxHeartbeats 4000000 in
set_option maxRecDepth 100000 in
theorem c_X1_reviseSheet (l : Launch) (D : va_G) (cs : Nat → ClassId) (a : Nat → Nat) (O : OF) (p1 : Int32) (p2 : Int32) (hd : oD a) : Met l yX1_reviseSheet (wc yX1_reviseSheet cX1_reviseSheet 4 (some .int)) ({ frames := 4, cells := 0, slots := 0, locals := 89 } : Room) (va_Pc [.ref (a 0), .int p1, .int p2] (PE D cs (ofW cs a O))) (va_Qi (fun (r9 : Int32) (u : OF) => r9 = (sX1_reviseSheet O p1 p2).1 ∧ u = (sX1_reviseSheet O p1 p2).2) (fun u t => va_P D vwC (ofW cs a u) t.heap) (oA a)) 0 0 (oA a) := by
  obtain ⟨v, hv⟩ : ∃ v, sX1_reviseSheet O p1 p2 = v := ⟨_, rfl⟩
  rw [hv]
  refine met_o (lv := [(0, .ref (a 0)), (1, .int p1), (2, .int p2)]) (by decide) (Nat.le_of_ble_eq_true rfl) rfl ?_
  intro p e s m args below meth c ls hx hb hr hml hts hown hlocks hin hP hE hl
  have hown : s.vm.findClass RX1 = some m.cls := hown
  have hK := hE.1
  have hP : va_P D vwC (ofW cs a O) s.heap := hP
  have hS : va_S (oA a) s.heap s.heap [] := va_S.rf
  unfold sX1_reviseSheet at hv
  refine lv_aload_n hx hb dX1_reviseSheet_0 rfl (lv_at hl 0 rfl) ?_
  refine va_get (D := D) (ci := 1) (v := .ref (a 1)) (C := RX1) (T := TX1) (N := 6) hx hb hts iw_X1 hown hK hP 0 rfl rfl 0 (by decide) (hts _ w_fl_X1_12) (fun _ h9 => h9) rfl dX1_reviseSheet_1 ?_
  refine lv_iload_n hx hb dX1_reviseSheet_4 rfl (lv_at hl 1 rfl) ?_
  refine ro_i (b2i (sX4_has O p1)) (run_c (va_runV (As := [.int p1]) (rest := []) ⟨hx, hb, hml, hown, hts⟩ (c_X4_has l D cs a O p1) (cwV 1 hts (good_V w_ml_X1_159 w_im_X4_has w_se_X4_has w_in_X4 w_co_X4_has) rfl rfl rfl ⟨rfl, hd_X4_has⟩ ⟨Nat.le_of_ble_eq_true rfl, Nat.le_of_ble_eq_true rfl⟩) (pe_W (C := RX4) (T := TX4) (N := 5) (ci := 4) (q0 := 1) hP hE rfl rfl) rfl rfl hl.1 rfl (lv_room (Nat.le_of_ble_eq_true rfl)) dX1_reviseSheet_5 ⟨Nat.zero_le _, Nat.zero_le _⟩)) ?_
  refine lv_if_ne (tgt := 14) hx hb dX1_reviseSheet_8 (by decide) (fun c8 => ?_) (fun c8 => ?_)
  · have c8 := b2i_t c8
    have hv := (if_pos c8).symm.trans hv
    refine lv_iload_n hx hb dX1_reviseSheet_14 rfl (lv_at hl 2 rfl) ?_
    refine ro_i (b2i (sX7_isCloud p2)) (run_c (va_runSN (As := [.int p2]) (rest := []) ⟨hx, hb, hml, hown, hts⟩ (c_X7_isCloud l D cs p2) ⟨va_cnB 1 hts (good_code w_co_X7_isCloud) rfl rfl rfl (hE.2.1 ("TrueSheets$Office", 165, yX7_isCloud) (List.mem_of_getElem? (i := 12) rfl)) (hts _ w_in_X7) hd_X7_isCloud ⟨Nat.le_of_ble_eq_true rfl, Nat.le_of_ble_eq_true rfl⟩, hts _ w_st_X7_isCloud, trivial⟩ (pe_S (p_nil D _) hE) rfl rfl hl.1 rfl (lv_room (Nat.le_of_ble_eq_true rfl)) dX1_reviseSheet_15 ⟨Nat.zero_le _, Nat.zero_le _⟩)) ?_
    refine lv_if_ne (tgt := 24) hx hb dX1_reviseSheet_18 (by decide) (fun c18 => ?_) (fun c18 => ?_)
    · have c18 := b2i_t c18
      have hv := (if_pos c18).symm.trans hv
      refine lv_aload_n hx hb dX1_reviseSheet_24 rfl (lv_at hl 0 rfl) ?_
      refine va_get (D := D) (ci := 1) (v := .ref (a 1)) (C := RX1) (T := TX1) (N := 6) hx hb hts iw_X1 hown hK hP 0 rfl rfl 0 (by decide) (hts _ w_fl_X1_12) (fun _ h9 => h9) rfl dX1_reviseSheet_25 ?_
      refine lv_iload_n hx hb dX1_reviseSheet_28 rfl (lv_at hl 1 rfl) ?_
      refine ro_i (sX4_revisionOf O p1) (run_c (va_runV (As := [.int p1]) (rest := []) ⟨hx, hb, hml, hown, hts⟩ (c_X4_revisionOf l D cs a O p1) (cwV 1 hts (good_V w_ml_X1_128 w_im_X4_revisionOf w_se_X4_revisionOf w_in_X4 w_co_X4_revisionOf) rfl rfl rfl ⟨rfl, hd_X4_revisionOf⟩ ⟨Nat.le_of_ble_eq_true rfl, Nat.le_of_ble_eq_true rfl⟩) (pe_W (C := RX4) (T := TX4) (N := 5) (ci := 4) (q0 := 1) hP hE rfl rfl) rfl rfl hl.1 rfl (lv_room (Nat.le_of_ble_eq_true rfl)) dX1_reviseSheet_29 ⟨Nat.zero_le _, Nat.zero_le _⟩)) ?_
      refine lv_bipush (v := 99) hx hb dX1_reviseSheet_32 (by decide) ?_
      refine lv_icmp_lt (tgt := 40) hx hb dX1_reviseSheet_34 (by decide) (fun c34 => ?_) (fun c34 => ?_)
      · have hv := (if_pos c34).symm.trans hv
        refine lv_aload_n hx hb dX1_reviseSheet_40 rfl (lv_at hl 0 rfl) ?_
        refine va_get (D := D) (ci := 1) (v := .ref (a 2)) (C := RX1) (T := TX1) (N := 6) hx hb hts iw_X1 hown hK hP 0 rfl rfl 1 (by decide) (hts _ w_fl_X1_21) (fun _ h9 => h9) rfl dX1_reviseSheet_41 ?_
        refine lv_iload_n hx hb dX1_reviseSheet_44 rfl (lv_at hl 1 rfl) ?_
        refine ro_i (sX3_recallCountOf O p1) (run_c (va_runV (As := [.int p1]) (rest := []) ⟨hx, hb, hml, hown, hts⟩ (c_X3_recallCountOf l D cs a O p1) (cwV 1 hts (good_V w_ml_X1_168 w_im_X3_recallCountOf w_se_X3_recallCountOf w_in_X3 w_co_X3_recallCountOf) rfl rfl rfl ⟨rfl, hd_X3_recallCountOf⟩ ⟨Nat.le_of_ble_eq_true rfl, Nat.le_of_ble_eq_true rfl⟩) (pe_W (C := RX3) (T := TX3) (N := 8) (ci := 3) (q0 := 2) hP hE rfl rfl) rfl rfl hl.1 rfl (lv_room (Nat.le_of_ble_eq_true rfl)) dX1_reviseSheet_45 ⟨Nat.zero_le _, Nat.zero_le _⟩)) ?_
        refine lv_istore_n (lv' := [(3, .int (sX3_recallCountOf O p1)), (0, .ref (a 0)), (1, .int p1), (2, .int p2)]) hx hb dX1_reviseSheet_48 rfl hl (by decide) rfl (fun ls hl => ?_)
        refine lv_aload_n hx hb dX1_reviseSheet_49 rfl (lv_at hl 1 rfl) ?_
        refine va_get (D := D) (ci := 1) (v := .ref (a 2)) (C := RX1) (T := TX1) (N := 6) hx hb hts iw_X1 hown hK hP 0 rfl rfl 1 (by decide) (hts _ w_fl_X1_21) (fun _ h9 => h9) rfl dX1_reviseSheet_50 ?_
        refine lv_iload_n hx hb dX1_reviseSheet_53 rfl (lv_at hl 2 rfl) ?_
        refine lv_aload_n hx hb dX1_reviseSheet_54 rfl (lv_at hl 1 rfl) ?_
        refine va_get (D := D) (ci := 1) (v := .int (O.1 5)) (C := RX1) (T := TX1) (N := 6) hx hb hts iw_X1 hown hK hP 0 rfl rfl 4 (by decide) (hts _ w_fl_X1_42) (fun _ h9 => h9) rfl dX1_reviseSheet_55 ?_
        refine lv_aload_n hx hb dX1_reviseSheet_58 rfl (lv_at hl 1 rfl) ?_
        refine va_get (D := D) (ci := 1) (v := .ref (a 4)) (C := RX1) (T := TX1) (N := 6) hx hb hts iw_X1 hown hK hP 0 rfl rfl 3 (by decide) (hts _ w_fl_X1_32) (fun _ h9 => h9) rfl dX1_reviseSheet_59 ?_
        refine lv_iconst (v := 0) hx hb dX1_reviseSheet_62 (by decide) ?_
        refine va_iald (cA := cs 0) (n := 3) (f := (O.2 4)) hx hb hK hP 4 0 rfl rfl (by unfold vp_in; decide) dX1_reviseSheet_63 ?_
        refine lv_iadd hx hb dX1_reviseSheet_64 ?_
        refine w_v (sX3_recallAllOf O p1 ((O.1 5) + ((O.2 4) (0 : Int32).toNatClampNeg))) (va_runV (As := [.int p1, .int ((O.1 5) + ((O.2 4) (0 : Int32).toNatClampNeg))]) (rest := []) ⟨hx, hb, hml, hown, hts⟩ (c_X3_recallAllOf l D cs a O p1 ((O.1 5) + ((O.2 4) (0 : Int32).toNatClampNeg)) hd) (cwV 2 hts (good_V w_ml_X1_171 w_im_X3_recallAllOf w_se_X3_recallAllOf w_in_X3 w_co_X3_recallAllOf) rfl rfl rfl ⟨rfl, hd_X3_recallAllOf⟩ ⟨Nat.le_of_ble_eq_true rfl, Nat.le_of_ble_eq_true rfl⟩) (pe_W (C := RX3) (T := TX3) (N := 8) (ci := 3) (q0 := 2) hP hE rfl rfl) rfl rfl hl.1 rfl (lv_room (Nat.le_of_ble_eq_true rfl)) dX1_reviseSheet_65 ⟨Nat.zero_le _, Nat.zero_le _⟩) hS (fun _ _ h => h) (fun _ h => h) (fun t locs hB hz hk hS => ?_)
        have hP : va_P D vwC (ofW cs a (sX3_recallAllOf O p1 ((O.1 5) + ((O.2 4) (0 : Int32).toNatClampNeg)))) t.heap := hB
        refine lv_aload_n hx hb dX1_reviseSheet_68 rfl (lv_at hl 1 rfl) ?_
        refine va_get (D := D) (ci := 1) (v := .ref (a 1)) (C := RX1) (T := TX1) (N := 6) hx hb hts iw_X1 hown hK hP 0 rfl rfl 0 (by decide) (hts _ w_fl_X1_12) (fun _ h9 => h9) rfl dX1_reviseSheet_69 ?_
        refine lv_iload_n hx hb dX1_reviseSheet_72 rfl (lv_at hl 2 rfl) ?_
        refine lv_iload_n hx hb dX1_reviseSheet_73 rfl (lv_at hl 3 rfl) ?_
        refine w_v (sX4_drawAnew (sX3_recallAllOf O p1 ((O.1 5) + ((O.2 4) (0 : Int32).toNatClampNeg))) p1 p2) (va_runV (As := [.int p1, .int p2]) (rest := []) ⟨hx, hb, hml, hown, hts⟩ (c_X4_drawAnew l D cs a (sX3_recallAllOf O p1 ((O.1 5) + ((O.2 4) (0 : Int32).toNatClampNeg))) p1 p2 hd) (cwV 2 hts (good_V w_ml_X1_175 w_im_X4_drawAnew w_se_X4_drawAnew w_in_X4 w_co_X4_drawAnew) rfl rfl rfl ⟨rfl, hd_X4_drawAnew⟩ ⟨Nat.le_of_ble_eq_true rfl, Nat.le_of_ble_eq_true rfl⟩) (pe_W (C := RX4) (T := TX4) (N := 5) (ci := 4) (q0 := 1) hP hE rfl rfl) rfl rfl hl.1 rfl (lv_room (Nat.le_of_ble_eq_true rfl)) dX1_reviseSheet_74 ⟨Nat.zero_le _, Nat.zero_le _⟩) hS (fun _ _ h => h) (fun _ h => h) (fun t locs hB hz hk hS => ?_)
        have hP : va_P D vwC (ofW cs a (sX4_drawAnew (sX3_recallAllOf O p1 ((O.1 5) + ((O.2 4) (0 : Int32).toNatClampNeg))) p1 p2)) t.heap := hB
        refine lv_iload_n hx hb dX1_reviseSheet_77 rfl (lv_at hl 0 rfl) ?_
        exact W.iret (v := sX3_recallCountOf O p1) hx hb hr (fun t ht hW => ⟨⟨sX3_recallCountOf O p1, (sX4_drawAnew (sX3_recallAllOf O p1 ((O.1 5) + ((O.2 4) (0 : Int32).toNatClampNeg))) p1 p2), rfl, pair_eq hv, pw ht hP⟩, hS.F ht⟩) hS.2.2 dX1_reviseSheet_78 (hlocks := hlocks)
      · have hv := (if_neg c34).symm.trans hv
        refine lv_bipush (v := (-4)) hx hb dX1_reviseSheet_37 (by decide) ?_
        exact W.iret (v := (-4)) hx hb hr (fun t ht hW => ⟨⟨(-4), O, rfl, pair_eq hv, pw ht hP⟩, hS.F ht⟩) hS.2.2 dX1_reviseSheet_39 (hlocks := hlocks)
    · have c18 := b2i_f c18
      have hv := (if_neg c18).symm.trans hv
      refine lv_bipush (v := (-3)) hx hb dX1_reviseSheet_21 (by decide) ?_
      exact W.iret (v := (-3)) hx hb hr (fun t ht hW => ⟨⟨(-3), O, rfl, pair_eq hv, pw ht hP⟩, hS.F ht⟩) hS.2.2 dX1_reviseSheet_23 (hlocks := hlocks)
  · have c8 := b2i_f c8
    have hv := (if_neg c8).symm.trans hv
    refine lv_bipush (v := (-2)) hx hb dX1_reviseSheet_11 (by decide) ?_
    exact W.iret (v := (-2)) hx hb hr (fun t ht hW => ⟨⟨(-2), O, rfl, pair_eq hv, pw ht hP⟩, hS.F ht⟩) hS.2.2 dX1_reviseSheet_13 (hlocks := hlocks)
theorem hd_X1_checkSheet : yX1_checkSheet.cls ≠ "java/lang/invoke/MethodHandle" ∧ yX1_checkSheet.cls ≠ "java/lang/invoke/VarHandle" ∧ (parseMethodDescriptor yX1_checkSheet.desc).map (fun d => d.parameters.length) = some 1 := by decide +kernel
def sX1_checkSheet (O : OF) (p1 : Int32) : Int32 × OF := (if (sX4_has O p1) = true then (if (sX4_isToCheck O p1) = true then (sX4_toCheckCount (sX4_markChecked O p1), (sX4_markChecked O p1)) else ((-4), O)) else ((-2), O))
set_option maxHeartbeats 4000000 in
set_option maxRecDepth 100000 in
theorem c_X1_checkSheet (l : Launch) (D : va_G) (cs : Nat → ClassId) (a : Nat → Nat) (O : OF) (p1 : Int32) (hd : oD a) : Met l yX1_checkSheet (wc yX1_checkSheet cX1_checkSheet 2 (some .int)) ({ frames := 2, cells := 0, slots := 0, locals := 42 } : Room) (va_Pc [.ref (a 0), .int p1] (PE D cs (ofW cs a O))) (va_Qi (fun (r9 : Int32) (u : OF) => r9 = (sX1_checkSheet O p1).1 ∧ u = (sX1_checkSheet O p1).2) (fun u t => va_P D vwC (ofW cs a u) t.heap) (oA a)) 0 0 (oA a) := by
  obtain ⟨v, hv⟩ : ∃ v, sX1_checkSheet O p1 = v := ⟨_, rfl⟩
  rw [hv]
  refine met_o (lv := [(0, .ref (a 0)), (1, .int p1)]) (by decide) (Nat.le_of_ble_eq_true rfl) rfl ?_
  intro p e s m args below meth c ls hx hb hr hml hts hown hlocks hin hP hE hl
  have hown : s.vm.findClass RX1 = some m.cls := hown
  have hK := hE.1
  have hP : va_P D vwC (ofW cs a O) s.heap := hP
  have hS : va_S (oA a) s.heap s.heap [] := va_S.rf
  unfold sX1_checkSheet at hv
  refine lv_aload_n hx hb dX1_checkSheet_0 rfl (lv_at hl 0 rfl) ?_
  refine va_get (D := D) (ci := 1) (v := .ref (a 1)) (C := RX1) (T := TX1) (N := 6) hx hb hts iw_X1 hown hK hP 0 rfl rfl 0 (by decide) (hts _ w_fl_X1_12) (fun _ h9 => h9) rfl dX1_checkSheet_1 ?_
  refine lv_iload_n hx hb dX1_checkSheet_4 rfl (lv_at hl 1 rfl) ?_
  refine ro_i (b2i (sX4_has O p1)) (run_c (va_runV (As := [.int p1]) (rest := []) ⟨hx, hb, hml, hown, hts⟩ (c_X4_has l D cs a O p1) (cwV 1 hts (good_V w_ml_X1_159 w_im_X4_has w_se_X4_has w_in_X4 w_co_X4_has) rfl rfl rfl ⟨rfl, hd_X4_has⟩ ⟨Nat.le_of_ble_eq_true rfl, Nat.le_of_ble_eq_true rfl⟩) (pe_W (C := RX4) (T := TX4) (N := 5) (ci := 4) (q0 := 1) hP hE rfl rfl) rfl rfl hl.1 rfl (lv_room (Nat.le_of_ble_eq_true rfl)) dX1_checkSheet_5 ⟨Nat.zero_le _, Nat.zero_le _⟩)) ?_
  refine lv_if_ne (tgt := 14) hx hb dX1_checkSheet_8 (by decide) (fun c8 => ?_) (fun c8 => ?_)
  · have c8 := b2i_t c8
    have hv := (if_pos c8).symm.trans hv
    refine lv_aload_n hx hb dX1_checkSheet_14 rfl (lv_at hl 0 rfl) ?_
    refine va_get (D := D) (ci := 1) (v := .ref (a 1)) (C := RX1) (T := TX1) (N := 6) hx hb hts iw_X1 hown hK hP 0 rfl rfl 0 (by decide) (hts _ w_fl_X1_12) (fun _ h9 => h9) rfl dX1_checkSheet_15 ?_
    refine lv_iload_n hx hb dX1_checkSheet_18 rfl (lv_at hl 1 rfl) ?_
    refine ro_i (b2i (sX4_isToCheck O p1)) (run_c (va_runV (As := [.int p1]) (rest := []) ⟨hx, hb, hml, hown, hts⟩ (c_X4_isToCheck l D cs a O p1) (cwV 1 hts (good_V w_ml_X1_84 w_im_X4_isToCheck w_se_X4_isToCheck w_in_X4 w_co_X4_isToCheck) rfl rfl rfl ⟨rfl, hd_X4_isToCheck⟩ ⟨Nat.le_of_ble_eq_true rfl, Nat.le_of_ble_eq_true rfl⟩) (pe_W (C := RX4) (T := TX4) (N := 5) (ci := 4) (q0 := 1) hP hE rfl rfl) rfl rfl hl.1 rfl (lv_room (Nat.le_of_ble_eq_true rfl)) dX1_checkSheet_19 ⟨Nat.zero_le _, Nat.zero_le _⟩)) ?_
    refine lv_if_ne (tgt := 28) hx hb dX1_checkSheet_22 (by decide) (fun c22 => ?_) (fun c22 => ?_)
    · have c22 := b2i_t c22
      have hv := (if_pos c22).symm.trans hv
      refine lv_aload_n hx hb dX1_checkSheet_28 rfl (lv_at hl 0 rfl) ?_
      refine va_get (D := D) (ci := 1) (v := .ref (a 1)) (C := RX1) (T := TX1) (N := 6) hx hb hts iw_X1 hown hK hP 0 rfl rfl 0 (by decide) (hts _ w_fl_X1_12) (fun _ h9 => h9) rfl dX1_checkSheet_29 ?_
      refine lv_iload_n hx hb dX1_checkSheet_32 rfl (lv_at hl 1 rfl) ?_
      refine w_v (sX4_markChecked O p1) (va_runV (As := [.int p1]) (rest := []) ⟨hx, hb, hml, hown, hts⟩ (c_X4_markChecked l D cs a O p1 hd) (cwV 1 hts (good_V w_ml_X1_178 w_im_X4_markChecked w_se_X4_markChecked w_in_X4 w_co_X4_markChecked) rfl rfl rfl ⟨rfl, hd_X4_markChecked⟩ ⟨Nat.le_of_ble_eq_true rfl, Nat.le_of_ble_eq_true rfl⟩) (pe_W (C := RX4) (T := TX4) (N := 5) (ci := 4) (q0 := 1) hP hE rfl rfl) rfl rfl hl.1 rfl (lv_room (Nat.le_of_ble_eq_true rfl)) dX1_checkSheet_33 ⟨Nat.zero_le _, Nat.zero_le _⟩) hS (fun _ _ h => h) (fun _ h => h) (fun t locs hB hz hk hS => ?_)
      have hP : va_P D vwC (ofW cs a (sX4_markChecked O p1)) t.heap := hB
      refine lv_aload_n hx hb dX1_checkSheet_36 rfl (lv_at hl 0 rfl) ?_
      refine va_get (D := D) (ci := 1) (v := .ref (a 1)) (C := RX1) (T := TX1) (N := 6) hx hb hts iw_X1 hown hK hP 0 rfl rfl 0 (by decide) (hts _ w_fl_X1_12) (fun _ h9 => h9) rfl dX1_checkSheet_37 ?_
      refine ro_i (sX4_toCheckCount (sX4_markChecked O p1)) (run_c (va_runV (As := []) (rest := []) ⟨hx, hb, hml, hown, hts⟩ (c_X4_toCheckCount l D cs a (sX4_markChecked O p1)) (cwV 0 hts (good_V w_ml_X1_122 w_im_X4_toCheckCount w_se_X4_toCheckCount w_in_X4 w_co_X4_toCheckCount) rfl rfl rfl ⟨rfl, hd_X4_toCheckCount⟩ ⟨Nat.le_of_ble_eq_true rfl, Nat.le_of_ble_eq_true rfl⟩) (pe_W (C := RX4) (T := TX4) (N := 5) (ci := 4) (q0 := 1) hP hE rfl rfl) rfl rfl hl.1 rfl (lv_room (Nat.le_of_ble_eq_true rfl)) dX1_checkSheet_40 ⟨Nat.zero_le _, Nat.zero_le _⟩)) ?_
      exact W.iret (v := sX4_toCheckCount (sX4_markChecked O p1)) hx hb hr (fun t ht hW => ⟨⟨sX4_toCheckCount (sX4_markChecked O p1), (sX4_markChecked O p1), rfl, pair_eq hv, pw ht hP⟩, hS.F ht⟩) hS.2.2 dX1_checkSheet_43 (hlocks := hlocks)
    · have c22 := b2i_f c22
      have hv := (if_neg c22).symm.trans hv
      refine lv_bipush (v := (-4)) hx hb dX1_checkSheet_25 (by decide) ?_
      exact W.iret (v := (-4)) hx hb hr (fun t ht hW => ⟨⟨(-4), O, rfl, pair_eq hv, pw ht hP⟩, hS.F ht⟩) hS.2.2 dX1_checkSheet_27 (hlocks := hlocks)
  · have c8 := b2i_f c8
    have hv := (if_neg c8).symm.trans hv
    refine lv_bipush (v := (-2)) hx hb dX1_checkSheet_11 (by decide) ?_
    exact W.iret (v := (-2)) hx hb hr (fun t ht hW => ⟨⟨(-2), O, rfl, pair_eq hv, pw ht hP⟩, hS.F ht⟩) hS.2.2 dX1_checkSheet_13 (hlocks := hlocks)
theorem hd_X1_addPrint : yX1_addPrint.cls ≠ "java/lang/invoke/MethodHandle" ∧ yX1_addPrint.cls ≠ "java/lang/invoke/VarHandle" ∧ (parseMethodDescriptor yX1_addPrint.desc).map (fun d => d.parameters.length) = some 2 := by decide +kernel
def sX1_addPrint (O : OF) (p1 : Int32) (p2 : Int32) : Int32 × OF := (if (sX4_has O p1) = true then (if (sX7_isSite p2) = true then ((sX3_add O p1 (sX4_revisionOf O p1) p2 (O.1 5)).1, ((sX3_add O p1 (sX4_revisionOf O p1) p2 (O.1 5)).2)) else ((-2), O)) else ((-2), O))
set_option maxHeartbeats 4000000 in
set_option maxRecDepth 100000 in
theorem c_X1_addPrint (l : Launch) (D : va_G) (cs : Nat → ClassId) (a : Nat → Nat) (O : OF) (p1 : Int32) (p2 : Int32) (hd : oD a) : Met l yX1_addPrint (wc yX1_addPrint cX1_addPrint 3 (some .int)) ({ frames := 2, cells := 0, slots := 0, locals := 42 } : Room) (va_Pc [.ref (a 0), .int p1, .int p2] (PE D cs (ofW cs a O))) (va_Qi (fun (r9 : Int32) (u : OF) => r9 = (sX1_addPrint O p1 p2).1 ∧ u = (sX1_addPrint O p1 p2).2) (fun u t => va_P D vwC (ofW cs a u) t.heap) (oA a)) 0 0 (oA a) := by
  obtain ⟨v, hv⟩ : ∃ v, sX1_addPrint O p1 p2 = v := ⟨_, rfl⟩
  rw [hv]
  refine met_o (lv := [(0, .ref (a 0)), (1, .int p1), (2, .int p2)]) (by decide) (Nat.le_of_ble_eq_true rfl) rfl ?_
  intro p e s m args below meth c ls hx hb hr hml hts hown hlocks hin hP hE hl
  have hown : s.vm.findClass RX1 = some m.cls := hown
  have hK := hE.1
  have hP : va_P D vwC (ofW cs a O) s.heap := hP
  have hS : va_S (oA a) s.heap s.heap [] := va_S.rf
  unfold sX1_addPrint at hv
  refine lv_aload_n hx hb dX1_addPrint_0 rfl (lv_at hl 0 rfl) ?_
  refine va_get (D := D) (ci := 1) (v := .ref (a 1)) (C := RX1) (T := TX1) (N := 6) hx hb hts iw_X1 hown hK hP 0 rfl rfl 0 (by decide) (hts _ w_fl_X1_12) (fun _ h9 => h9) rfl dX1_addPrint_1 ?_
  refine lv_iload_n hx hb dX1_addPrint_4 rfl (lv_at hl 1 rfl) ?_
  refine ro_i (b2i (sX4_has O p1)) (run_c (va_runV (As := [.int p1]) (rest := []) ⟨hx, hb, hml, hown, hts⟩ (c_X4_has l D cs a O p1) (cwV 1 hts (good_V w_ml_X1_159 w_im_X4_has w_se_X4_has w_in_X4 w_co_X4_has) rfl rfl rfl ⟨rfl, hd_X4_has⟩ ⟨Nat.le_of_ble_eq_true rfl, Nat.le_of_ble_eq_true rfl⟩) (pe_W (C := RX4) (T := TX4) (N := 5) (ci := 4) (q0 := 1) hP hE rfl rfl) rfl rfl hl.1 rfl (lv_room (Nat.le_of_ble_eq_true rfl)) dX1_addPrint_5 ⟨Nat.zero_le _, Nat.zero_le _⟩)) ?_
  refine lv_if_eq (tgt := 18) hx hb dX1_addPrint_8 (by decide) (fun c8 => ?_) (fun c8 => ?_)
  · have c8 := b2i_f c8
    have hv := (if_neg c8).symm.trans hv
    refine lv_bipush (v := (-2)) hx hb dX1_addPrint_18 (by decide) ?_
    exact W.iret (v := (-2)) hx hb hr (fun t ht hW => ⟨⟨(-2), O, rfl, pair_eq hv, pw ht hP⟩, hS.F ht⟩) hS.2.2 dX1_addPrint_20 (hlocks := hlocks)
  · have c8 := b2i_t c8
    have hv := (if_pos c8).symm.trans hv
    refine lv_iload_n hx hb dX1_addPrint_11 rfl (lv_at hl 2 rfl) ?_
    refine ro_i (b2i (sX7_isSite p2)) (run_c (va_runSN (As := [.int p2]) (rest := []) ⟨hx, hb, hml, hown, hts⟩ (c_X7_isSite l D cs p2) ⟨va_cnB 1 hts (good_code w_co_X7_isSite) rfl rfl rfl (hE.2.1 ("TrueSheets$Office", 182, yX7_isSite) (List.mem_of_getElem? (i := 11) rfl)) (hts _ w_in_X7) hd_X7_isSite ⟨Nat.le_of_ble_eq_true rfl, Nat.le_of_ble_eq_true rfl⟩, hts _ w_st_X7_isSite, trivial⟩ (pe_S (p_nil D _) hE) rfl rfl hl.1 rfl (lv_room (Nat.le_of_ble_eq_true rfl)) dX1_addPrint_12 ⟨Nat.zero_le _, Nat.zero_le _⟩)) ?_
    refine lv_if_ne (tgt := 21) hx hb dX1_addPrint_15 (by decide) (fun c15 => ?_) (fun c15 => ?_)
    · have c15 := b2i_t c15
      have hv := (if_pos c15).symm.trans hv
      refine lv_aload_n hx hb dX1_addPrint_21 rfl (lv_at hl 0 rfl) ?_
      refine va_get (D := D) (ci := 1) (v := .ref (a 2)) (C := RX1) (T := TX1) (N := 6) hx hb hts iw_X1 hown hK hP 0 rfl rfl 1 (by decide) (hts _ w_fl_X1_21) (fun _ h9 => h9) rfl dX1_addPrint_22 ?_
      refine lv_iload_n hx hb dX1_addPrint_25 rfl (lv_at hl 1 rfl) ?_
      refine lv_aload_n hx hb dX1_addPrint_26 rfl (lv_at hl 0 rfl) ?_
      refine va_get (D := D) (ci := 1) (v := .ref (a 1)) (C := RX1) (T := TX1) (N := 6) hx hb hts iw_X1 hown hK hP 0 rfl rfl 0 (by decide) (hts _ w_fl_X1_12) (fun _ h9 => h9) rfl dX1_addPrint_27 ?_
      refine lv_iload_n hx hb dX1_addPrint_30 rfl (lv_at hl 1 rfl) ?_
      refine ro_i (sX4_revisionOf O p1) (run_c (va_runV (As := [.int p1]) (rest := [.int p1, .ref (a 2)]) ⟨hx, hb, hml, hown, hts⟩ (c_X4_revisionOf l D cs a O p1) (cwV 1 hts (good_V w_ml_X1_128 w_im_X4_revisionOf w_se_X4_revisionOf w_in_X4 w_co_X4_revisionOf) rfl rfl rfl ⟨rfl, hd_X4_revisionOf⟩ ⟨Nat.le_of_ble_eq_true rfl, Nat.le_of_ble_eq_true rfl⟩) (pe_W (C := RX4) (T := TX4) (N := 5) (ci := 4) (q0 := 1) hP hE rfl rfl) rfl rfl hl.1 rfl (lv_room (Nat.le_of_ble_eq_true rfl)) dX1_addPrint_31 ⟨Nat.zero_le _, Nat.zero_le _⟩)) ?_
      refine lv_iload_n hx hb dX1_addPrint_34 rfl (lv_at hl 2 rfl) ?_
      refine lv_aload_n hx hb dX1_addPrint_35 rfl (lv_at hl 0 rfl) ?_
      refine va_get (D := D) (ci := 1) (v := .int (O.1 5)) (C := RX1) (T := TX1) (N := 6) hx hb hts iw_X1 hown hK hP 0 rfl rfl 4 (by decide) (hts _ w_fl_X1_42) (fun _ h9 => h9) rfl dX1_addPrint_36 ?_
      refine w_i (sX3_add O p1 (sX4_revisionOf O p1) p2 (O.1 5)) (va_runV (As := [.int p1, .int (sX4_revisionOf O p1), .int p2, .int (O.1 5)]) (rest := []) ⟨hx, hb, hml, hown, hts⟩ (c_X3_add l D cs a O p1 (sX4_revisionOf O p1) p2 (O.1 5) hd) (cwV 4 hts (good_V w_ml_X1_185 w_im_X3_add w_se_X3_add w_in_X3 w_co_X3_add) rfl rfl rfl ⟨rfl, hd_X3_add⟩ ⟨Nat.le_of_ble_eq_true rfl, Nat.le_of_ble_eq_true rfl⟩) (pe_W (C := RX3) (T := TX3) (N := 8) (ci := 3) (q0 := 2) hP hE rfl rfl) rfl rfl hl.1 rfl (lv_room (Nat.le_of_ble_eq_true rfl)) dX1_addPrint_39 ⟨Nat.zero_le _, Nat.zero_le _⟩) hS (fun _ _ h => h) (fun _ h => h) (fun t locs hB hz hk hS => ?_)
      have hP : va_P D vwC (ofW cs a ((sX3_add O p1 (sX4_revisionOf O p1) p2 (O.1 5)).2)) t.heap := hB
      exact W.iret (v := (sX3_add O p1 (sX4_revisionOf O p1) p2 (O.1 5)).1) hx hb hr (fun t ht hW => ⟨⟨(sX3_add O p1 (sX4_revisionOf O p1) p2 (O.1 5)).1, ((sX3_add O p1 (sX4_revisionOf O p1) p2 (O.1 5)).2), rfl, pair_eq hv, pw ht hP⟩, hS.F ht⟩) hS.2.2 dX1_addPrint_42 (hlocks := hlocks)
    · have c15 := b2i_f c15
      have hv := (if_neg c15).symm.trans hv
      refine lv_bipush (v := (-2)) hx hb dX1_addPrint_18 (by decide) ?_
      exact W.iret (v := (-2)) hx hb hr (fun t ht hW => ⟨⟨(-2), O, rfl, pair_eq hv, pw ht hP⟩, hS.F ht⟩) hS.2.2 dX1_addPrint_20 (hlocks := hlocks)
theorem hd_X1_stampPrint : yX1_stampPrint.cls ≠ "java/lang/invoke/MethodHandle" ∧ yX1_stampPrint.cls ≠ "java/lang/invoke/VarHandle" ∧ (parseMethodDescriptor yX1_stampPrint.desc).map (fun d => d.parameters.length) = some 2 := by decide +kernel
def sX1_stampPrint (O : OF) (p1 : Int32) (p2 : Int32) : Int32 × OF := (if (sX3_has O p1) = true then (if p2 < 0 then ((-2), O) else (if p2 < 3 then (if (sX3_isOutNotRecalled O p1) = true then ((sX3_addStamp O p1 p2).1, ((sX3_addStamp O p1 p2).2)) else ((-4), O)) else ((-2), O))) else ((-2), O))
set_option maxHeartbeats 4000000 in
set_option maxRecDepth 100000 in
theorem c_X1_stampPrint (l : Launch) (D : va_G) (cs : Nat → ClassId) (a : Nat → Nat) (O : OF) (p1 : Int32) (p2 : Int32) (hd : oD a) : Met l yX1_stampPrint (wc yX1_stampPrint cX1_stampPrint 3 (some .int)) ({ frames := 3, cells := 0, slots := 0, locals := 64 } : Room) (va_Pc [.ref (a 0), .int p1, .int p2] (PE D cs (ofW cs a O))) (va_Qi (fun (r9 : Int32) (u : OF) => r9 = (sX1_stampPrint O p1 p2).1 ∧ u = (sX1_stampPrint O p1 p2).2) (fun u t => va_P D vwC (ofW cs a u) t.heap) (oA a)) 0 0 (oA a) := by
  obtain ⟨v, hv⟩ : ∃ v, sX1_stampPrint O p1 p2 = v := ⟨_, rfl⟩
  rw [hv]
  refine met_o (lv := [(0, .ref (a 0)), (1, .int p1), (2, .int p2)]) (by decide) (Nat.le_of_ble_eq_true rfl) rfl ?_
  intro p e s m args below meth c ls hx hb hr hml hts hown hlocks hin hP hE hl
  have hown : s.vm.findClass RX1 = some m.cls := hown
  have hK := hE.1
  have hP : va_P D vwC (ofW cs a O) s.heap := hP
  have hS : va_S (oA a) s.heap s.heap [] := va_S.rf
  unfold sX1_stampPrint at hv
  refine lv_aload_n hx hb dX1_stampPrint_0 rfl (lv_at hl 0 rfl) ?_
  refine va_get (D := D) (ci := 1) (v := .ref (a 2)) (C := RX1) (T := TX1) (N := 6) hx hb hts iw_X1 hown hK hP 0 rfl rfl 1 (by decide) (hts _ w_fl_X1_21) (fun _ h9 => h9) rfl dX1_stampPrint_1 ?_
  refine lv_iload_n hx hb dX1_stampPrint_4 rfl (lv_at hl 1 rfl) ?_
  refine ro_i (b2i (sX3_has O p1)) (run_c (va_runV (As := [.int p1]) (rest := []) ⟨hx, hb, hml, hown, hts⟩ (c_X3_has l D cs a O p1) (cwV 1 hts (good_V w_ml_X1_188 w_im_X3_has w_se_X3_has w_in_X3 w_co_X3_has) rfl rfl rfl ⟨rfl, hd_X3_has⟩ ⟨Nat.le_of_ble_eq_true rfl, Nat.le_of_ble_eq_true rfl⟩) (pe_W (C := RX3) (T := TX3) (N := 8) (ci := 3) (q0 := 2) hP hE rfl rfl) rfl rfl hl.1 rfl (lv_room (Nat.le_of_ble_eq_true rfl)) dX1_stampPrint_5 ⟨Nat.zero_le _, Nat.zero_le _⟩)) ?_
  refine lv_if_eq (tgt := 20) hx hb dX1_stampPrint_8 (by decide) (fun c8 => ?_) (fun c8 => ?_)
  · have c8 := b2i_f c8
    have hv := (if_neg c8).symm.trans hv
    refine lv_bipush (v := (-2)) hx hb dX1_stampPrint_20 (by decide) ?_
    exact W.iret (v := (-2)) hx hb hr (fun t ht hW => ⟨⟨(-2), O, rfl, pair_eq hv, pw ht hP⟩, hS.F ht⟩) hS.2.2 dX1_stampPrint_22 (hlocks := hlocks)
  · have c8 := b2i_t c8
    have hv := (if_pos c8).symm.trans hv
    refine lv_iload_n hx hb dX1_stampPrint_11 rfl (lv_at hl 2 rfl) ?_
    refine lv_if_lt (tgt := 20) hx hb dX1_stampPrint_12 (by decide) (fun c12 => ?_) (fun c12 => ?_)
    · have hv := (if_pos c12).symm.trans hv
      refine lv_bipush (v := (-2)) hx hb dX1_stampPrint_20 (by decide) ?_
      exact W.iret (v := (-2)) hx hb hr (fun t ht hW => ⟨⟨(-2), O, rfl, pair_eq hv, pw ht hP⟩, hS.F ht⟩) hS.2.2 dX1_stampPrint_22 (hlocks := hlocks)
    · have hv := (if_neg c12).symm.trans hv
      refine lv_iload_n hx hb dX1_stampPrint_15 rfl (lv_at hl 2 rfl) ?_
      refine lv_iconst (v := 3) hx hb dX1_stampPrint_16 (by decide) ?_
      refine lv_icmp_lt (tgt := 23) hx hb dX1_stampPrint_17 (by decide) (fun c17 => ?_) (fun c17 => ?_)
      · have hv := (if_pos c17).symm.trans hv
        refine lv_aload_n hx hb dX1_stampPrint_23 rfl (lv_at hl 0 rfl) ?_
        refine va_get (D := D) (ci := 1) (v := .ref (a 2)) (C := RX1) (T := TX1) (N := 6) hx hb hts iw_X1 hown hK hP 0 rfl rfl 1 (by decide) (hts _ w_fl_X1_21) (fun _ h9 => h9) rfl dX1_stampPrint_24 ?_
        refine lv_iload_n hx hb dX1_stampPrint_27 rfl (lv_at hl 1 rfl) ?_
        refine ro_i (b2i (sX3_isOutNotRecalled O p1)) (run_c (va_runV (As := [.int p1]) (rest := []) ⟨hx, hb, hml, hown, hts⟩ (c_X3_isOutNotRecalled l D cs a O p1) (cwV 1 hts (good_V w_ml_X1_69 w_im_X3_isOutNotRecalled w_se_X3_isOutNotRecalled w_in_X3 w_co_X3_isOutNotRecalled) rfl rfl rfl ⟨rfl, hd_X3_isOutNotRecalled⟩ ⟨Nat.le_of_ble_eq_true rfl, Nat.le_of_ble_eq_true rfl⟩) (pe_W (C := RX3) (T := TX3) (N := 8) (ci := 3) (q0 := 2) hP hE rfl rfl) rfl rfl hl.1 rfl (lv_room (Nat.le_of_ble_eq_true rfl)) dX1_stampPrint_28 ⟨Nat.zero_le _, Nat.zero_le _⟩)) ?_
        refine lv_if_ne (tgt := 37) hx hb dX1_stampPrint_31 (by decide) (fun c31 => ?_) (fun c31 => ?_)
        · have c31 := b2i_t c31
          have hv := (if_pos c31).symm.trans hv
          refine lv_aload_n hx hb dX1_stampPrint_37 rfl (lv_at hl 0 rfl) ?_
          refine va_get (D := D) (ci := 1) (v := .ref (a 2)) (C := RX1) (T := TX1) (N := 6) hx hb hts iw_X1 hown hK hP 0 rfl rfl 1 (by decide) (hts _ w_fl_X1_21) (fun _ h9 => h9) rfl dX1_stampPrint_38 ?_
          refine lv_iload_n hx hb dX1_stampPrint_41 rfl (lv_at hl 1 rfl) ?_
          refine lv_iload_n hx hb dX1_stampPrint_42 rfl (lv_at hl 2 rfl) ?_
          refine w_i (sX3_addStamp O p1 p2) (va_runV (As := [.int p1, .int p2]) (rest := []) ⟨hx, hb, hml, hown, hts⟩ (c_X3_addStamp l D cs a O p1 p2 hd) (cwV 2 hts (good_V w_ml_X1_189 w_im_X3_addStamp w_se_X3_addStamp w_in_X3 w_co_X3_addStamp) rfl rfl rfl ⟨rfl, hd_X3_addStamp⟩ ⟨Nat.le_of_ble_eq_true rfl, Nat.le_of_ble_eq_true rfl⟩) (pe_W (C := RX3) (T := TX3) (N := 8) (ci := 3) (q0 := 2) hP hE rfl rfl) rfl rfl hl.1 rfl (lv_room (Nat.le_of_ble_eq_true rfl)) dX1_stampPrint_43 ⟨Nat.zero_le _, Nat.zero_le _⟩) hS (fun _ _ h => h) (fun _ h => h) (fun t locs hB hz hk hS => ?_)
          have hP : va_P D vwC (ofW cs a ((sX3_addStamp O p1 p2).2)) t.heap := hB
          exact W.iret (v := (sX3_addStamp O p1 p2).1) hx hb hr (fun t ht hW => ⟨⟨(sX3_addStamp O p1 p2).1, ((sX3_addStamp O p1 p2).2), rfl, pair_eq hv, pw ht hP⟩, hS.F ht⟩) hS.2.2 dX1_stampPrint_46 (hlocks := hlocks)
        · have c31 := b2i_f c31
          have hv := (if_neg c31).symm.trans hv
          refine lv_bipush (v := (-4)) hx hb dX1_stampPrint_34 (by decide) ?_
          exact W.iret (v := (-4)) hx hb hr (fun t ht hW => ⟨⟨(-4), O, rfl, pair_eq hv, pw ht hP⟩, hS.F ht⟩) hS.2.2 dX1_stampPrint_36 (hlocks := hlocks)
      · have hv := (if_neg c17).symm.trans hv
        refine lv_bipush (v := (-2)) hx hb dX1_stampPrint_20 (by decide) ?_
        exact W.iret (v := (-2)) hx hb hr (fun t ht hW => ⟨⟨(-2), O, rfl, pair_eq hv, pw ht hP⟩, hS.F ht⟩) hS.2.2 dX1_stampPrint_22 (hlocks := hlocks)
theorem hd_X1_takeBack : yX1_takeBack.cls ≠ "java/lang/invoke/MethodHandle" ∧ yX1_takeBack.cls ≠ "java/lang/invoke/VarHandle" ∧ (parseMethodDescriptor yX1_takeBack.desc).map (fun d => d.parameters.length) = some 1 := by decide +kernel
def sX1_takeBack (O : OF) (p1 : Int32) : Int32 × OF := (if (sX3_has O p1) = true then (if (sX3_isOut O p1) = true then (sX3_overdueDays O p1 (O.1 5), (sX3_markBack O p1)) else ((-4), O)) else ((-2), O))
set_option maxHeartbeats 4000000 in
set_option maxRecDepth 100000 in
theorem c_X1_takeBack (l : Launch) (D : va_G) (cs : Nat → ClassId) (a : Nat → Nat) (O : OF) (p1 : Int32) (hd : oD a) : Met l yX1_takeBack (wc yX1_takeBack cX1_takeBack 3 (some .int)) ({ frames := 4, cells := 0, slots := 0, locals := 85 } : Room) (va_Pc [.ref (a 0), .int p1] (PE D cs (ofW cs a O))) (va_Qi (fun (r9 : Int32) (u : OF) => r9 = (sX1_takeBack O p1).1 ∧ u = (sX1_takeBack O p1).2) (fun u t => va_P D vwC (ofW cs a u) t.heap) (oA a)) 0 0 (oA a) := by
  obtain ⟨v, hv⟩ : ∃ v, sX1_takeBack O p1 = v := ⟨_, rfl⟩
  rw [hv]
  refine met_o (lv := [(0, .ref (a 0)), (1, .int p1)]) (by decide) (Nat.le_of_ble_eq_true rfl) rfl ?_
  intro p e s m args below meth c ls hx hb hr hml hts hown hlocks hin hP hE hl
  have hown : s.vm.findClass RX1 = some m.cls := hown
  have hK := hE.1
  have hP : va_P D vwC (ofW cs a O) s.heap := hP
  have hS : va_S (oA a) s.heap s.heap [] := va_S.rf
  unfold sX1_takeBack at hv
  refine lv_aload_n hx hb dX1_takeBack_0 rfl (lv_at hl 0 rfl) ?_
  refine va_get (D := D) (ci := 1) (v := .ref (a 2)) (C := RX1) (T := TX1) (N := 6) hx hb hts iw_X1 hown hK hP 0 rfl rfl 1 (by decide) (hts _ w_fl_X1_21) (fun _ h9 => h9) rfl dX1_takeBack_1 ?_
  refine lv_iload_n hx hb dX1_takeBack_4 rfl (lv_at hl 1 rfl) ?_
  refine ro_i (b2i (sX3_has O p1)) (run_c (va_runV (As := [.int p1]) (rest := []) ⟨hx, hb, hml, hown, hts⟩ (c_X3_has l D cs a O p1) (cwV 1 hts (good_V w_ml_X1_188 w_im_X3_has w_se_X3_has w_in_X3 w_co_X3_has) rfl rfl rfl ⟨rfl, hd_X3_has⟩ ⟨Nat.le_of_ble_eq_true rfl, Nat.le_of_ble_eq_true rfl⟩) (pe_W (C := RX3) (T := TX3) (N := 8) (ci := 3) (q0 := 2) hP hE rfl rfl) rfl rfl hl.1 rfl (lv_room (Nat.le_of_ble_eq_true rfl)) dX1_takeBack_5 ⟨Nat.zero_le _, Nat.zero_le _⟩)) ?_
  refine lv_if_ne (tgt := 14) hx hb dX1_takeBack_8 (by decide) (fun c8 => ?_) (fun c8 => ?_)
  · have c8 := b2i_t c8
    have hv := (if_pos c8).symm.trans hv
    refine lv_aload_n hx hb dX1_takeBack_14 rfl (lv_at hl 0 rfl) ?_
    refine va_get (D := D) (ci := 1) (v := .ref (a 2)) (C := RX1) (T := TX1) (N := 6) hx hb hts iw_X1 hown hK hP 0 rfl rfl 1 (by decide) (hts _ w_fl_X1_21) (fun _ h9 => h9) rfl dX1_takeBack_15 ?_
    refine lv_iload_n hx hb dX1_takeBack_18 rfl (lv_at hl 1 rfl) ?_
    refine ro_i (b2i (sX3_isOut O p1)) (run_c (va_runV (As := [.int p1]) (rest := []) ⟨hx, hb, hml, hown, hts⟩ (c_X3_isOut l D cs a O p1) (cwV 1 hts (good_V w_ml_X1_146 w_im_X3_isOut w_se_X3_isOut w_in_X3 w_co_X3_isOut) rfl rfl rfl ⟨rfl, hd_X3_isOut⟩ ⟨Nat.le_of_ble_eq_true rfl, Nat.le_of_ble_eq_true rfl⟩) (pe_W (C := RX3) (T := TX3) (N := 8) (ci := 3) (q0 := 2) hP hE rfl rfl) rfl rfl hl.1 rfl (lv_room (Nat.le_of_ble_eq_true rfl)) dX1_takeBack_19 ⟨Nat.zero_le _, Nat.zero_le _⟩)) ?_
    refine lv_if_ne (tgt := 28) hx hb dX1_takeBack_22 (by decide) (fun c22 => ?_) (fun c22 => ?_)
    · have c22 := b2i_t c22
      have hv := (if_pos c22).symm.trans hv
      refine lv_aload_n hx hb dX1_takeBack_28 rfl (lv_at hl 0 rfl) ?_
      refine va_get (D := D) (ci := 1) (v := .ref (a 2)) (C := RX1) (T := TX1) (N := 6) hx hb hts iw_X1 hown hK hP 0 rfl rfl 1 (by decide) (hts _ w_fl_X1_21) (fun _ h9 => h9) rfl dX1_takeBack_29 ?_
      refine lv_iload_n hx hb dX1_takeBack_32 rfl (lv_at hl 1 rfl) ?_
      refine lv_aload_n hx hb dX1_takeBack_33 rfl (lv_at hl 0 rfl) ?_
      refine va_get (D := D) (ci := 1) (v := .int (O.1 5)) (C := RX1) (T := TX1) (N := 6) hx hb hts iw_X1 hown hK hP 0 rfl rfl 4 (by decide) (hts _ w_fl_X1_42) (fun _ h9 => h9) rfl dX1_takeBack_34 ?_
      refine ro_i (sX3_overdueDays O p1 (O.1 5)) (run_c (va_runV (As := [.int p1, .int (O.1 5)]) (rest := []) ⟨hx, hb, hml, hown, hts⟩ (c_X3_overdueDays l D cs a O p1 (O.1 5)) (cwV 2 hts (good_V w_ml_X1_192 w_im_X3_overdueDays w_se_X3_overdueDays w_in_X3 w_co_X3_overdueDays) rfl rfl rfl ⟨rfl, hd_X3_overdueDays⟩ ⟨Nat.le_of_ble_eq_true rfl, Nat.le_of_ble_eq_true rfl⟩) (pe_W (C := RX3) (T := TX3) (N := 8) (ci := 3) (q0 := 2) hP hE rfl rfl) rfl rfl hl.1 rfl (lv_room (Nat.le_of_ble_eq_true rfl)) dX1_takeBack_37 ⟨Nat.zero_le _, Nat.zero_le _⟩)) ?_
      refine lv_istore_n (lv' := [(2, .int (sX3_overdueDays O p1 (O.1 5))), (0, .ref (a 0)), (1, .int p1)]) hx hb dX1_takeBack_40 rfl hl (by decide) rfl (fun ls hl => ?_)
      refine lv_aload_n hx hb dX1_takeBack_41 rfl (lv_at hl 1 rfl) ?_
      refine va_get (D := D) (ci := 1) (v := .ref (a 2)) (C := RX1) (T := TX1) (N := 6) hx hb hts iw_X1 hown hK hP 0 rfl rfl 1 (by decide) (hts _ w_fl_X1_21) (fun _ h9 => h9) rfl dX1_takeBack_42 ?_
      refine lv_iload_n hx hb dX1_takeBack_45 rfl (lv_at hl 2 rfl) ?_
      refine w_v (sX3_markBack O p1) (va_runV (As := [.int p1]) (rest := []) ⟨hx, hb, hml, hown, hts⟩ (c_X3_markBack l D cs a O p1 hd) (cwV 1 hts (good_V w_ml_X1_195 w_im_X3_markBack w_se_X3_markBack w_in_X3 w_co_X3_markBack) rfl rfl rfl ⟨rfl, hd_X3_markBack⟩ ⟨Nat.le_of_ble_eq_true rfl, Nat.le_of_ble_eq_true rfl⟩) (pe_W (C := RX3) (T := TX3) (N := 8) (ci := 3) (q0 := 2) hP hE rfl rfl) rfl rfl hl.1 rfl (lv_room (Nat.le_of_ble_eq_true rfl)) dX1_takeBack_46 ⟨Nat.zero_le _, Nat.zero_le _⟩) hS (fun _ _ h => h) (fun _ h => h) (fun t locs hB hz hk hS => ?_)
      have hP : va_P D vwC (ofW cs a (sX3_markBack O p1)) t.heap := hB
      refine lv_iload_n hx hb dX1_takeBack_49 rfl (lv_at hl 0 rfl) ?_
      exact W.iret (v := sX3_overdueDays O p1 (O.1 5)) hx hb hr (fun t ht hW => ⟨⟨sX3_overdueDays O p1 (O.1 5), (sX3_markBack O p1), rfl, pair_eq hv, pw ht hP⟩, hS.F ht⟩) hS.2.2 dX1_takeBack_50 (hlocks := hlocks)
    · have c22 := b2i_f c22
      have hv := (if_neg c22).symm.trans hv
      refine lv_bipush (v := (-4)) hx hb dX1_takeBack_25 (by decide) ?_
      exact W.iret (v := (-4)) hx hb hr (fun t ht hW => ⟨⟨(-4), O, rfl, pair_eq hv, pw ht hP⟩, hS.F ht⟩) hS.2.2 dX1_takeBack_27 (hlocks := hlocks)
  · have c8 := b2i_f c8
    have hv := (if_neg c8).symm.trans hv
    refine lv_bipush (v := (-2)) hx hb dX1_takeBack_11 (by decide) ?_
    exact W.iret (v := (-2)) hx hb hr (fun t ht hW => ⟨⟨(-2), O, rfl, pair_eq hv, pw ht hP⟩, hS.F ht⟩) hS.2.2 dX1_takeBack_13 (hlocks := hlocks)
theorem hd_X1_buildField : yX1_buildField.cls ≠ "java/lang/invoke/MethodHandle" ∧ yX1_buildField.cls ≠ "java/lang/invoke/VarHandle" ∧ (parseMethodDescriptor yX1_buildField.desc).map (fun d => d.parameters.length) = some 2 := by decide +kernel
def sX1_buildField (O : OF) (p1 : Int32) (p2 : Int32) : Int32 × OF := (if (sX3_has O p1) = true then (if (sX7_isField p2) = true then (if (sX1_mayBuildBy O p1) = true then ((sX6_add O (sX3_siteOf O p1) (sX3_sheetOf O p1) p2 (sX3_revisionOf O p1)).1, ((sX6_add O (sX3_siteOf O p1) (sX3_sheetOf O p1) p2 (sX3_revisionOf O p1)).2)) else ((-4), O)) else ((-2), O)) else ((-2), O))
set_option maxHeartbeats 4000000 in
set_option maxRecDepth 100000 in
theorem c_X1_buildField (l : Launch) (D : va_G) (cs : Nat → ClassId) (a : Nat → Nat) (O : OF) (p1 : Int32) (p2 : Int32) (hd : oD a) : Met l yX1_buildField (wc yX1_buildField cX1_buildField 3 (some .int)) ({ frames := 4, cells := 0, slots := 0, locals := 84 } : Room) (va_Pc [.ref (a 0), .int p1, .int p2] (PE D cs (ofW cs a O))) (va_Qi (fun (r9 : Int32) (u : OF) => r9 = (sX1_buildField O p1 p2).1 ∧ u = (sX1_buildField O p1 p2).2) (fun u t => va_P D vwC (ofW cs a u) t.heap) (oA a)) 0 0 (oA a) := by
  obtain ⟨v, hv⟩ : ∃ v, sX1_buildField O p1 p2 = v := ⟨_, rfl⟩
  rw [hv]
  refine met_o (lv := [(0, .ref (a 0)), (1, .int p1), (2, .int p2)]) (by decide) (Nat.le_of_ble_eq_true rfl) rfl ?_
  intro p e s m args below meth c ls hx hb hr hml hts hown hlocks hin hP hE hl
  have hown : s.vm.findClass RX1 = some m.cls := hown
  have hK := hE.1
  have hP : va_P D vwC (ofW cs a O) s.heap := hP
  have hS : va_S (oA a) s.heap s.heap [] := va_S.rf
  unfold sX1_buildField at hv
  refine lv_aload_n hx hb dX1_buildField_0 rfl (lv_at hl 0 rfl) ?_
  refine va_get (D := D) (ci := 1) (v := .ref (a 2)) (C := RX1) (T := TX1) (N := 6) hx hb hts iw_X1 hown hK hP 0 rfl rfl 1 (by decide) (hts _ w_fl_X1_21) (fun _ h9 => h9) rfl dX1_buildField_1 ?_
  refine lv_iload_n hx hb dX1_buildField_4 rfl (lv_at hl 1 rfl) ?_
  refine ro_i (b2i (sX3_has O p1)) (run_c (va_runV (As := [.int p1]) (rest := []) ⟨hx, hb, hml, hown, hts⟩ (c_X3_has l D cs a O p1) (cwV 1 hts (good_V w_ml_X1_188 w_im_X3_has w_se_X3_has w_in_X3 w_co_X3_has) rfl rfl rfl ⟨rfl, hd_X3_has⟩ ⟨Nat.le_of_ble_eq_true rfl, Nat.le_of_ble_eq_true rfl⟩) (pe_W (C := RX3) (T := TX3) (N := 8) (ci := 3) (q0 := 2) hP hE rfl rfl) rfl rfl hl.1 rfl (lv_room (Nat.le_of_ble_eq_true rfl)) dX1_buildField_5 ⟨Nat.zero_le _, Nat.zero_le _⟩)) ?_
  refine lv_if_eq (tgt := 18) hx hb dX1_buildField_8 (by decide) (fun c8 => ?_) (fun c8 => ?_)
  · have c8 := b2i_f c8
    have hv := (if_neg c8).symm.trans hv
    refine lv_bipush (v := (-2)) hx hb dX1_buildField_18 (by decide) ?_
    exact W.iret (v := (-2)) hx hb hr (fun t ht hW => ⟨⟨(-2), O, rfl, pair_eq hv, pw ht hP⟩, hS.F ht⟩) hS.2.2 dX1_buildField_20 (hlocks := hlocks)
  · have c8 := b2i_t c8
    have hv := (if_pos c8).symm.trans hv
    refine lv_iload_n hx hb dX1_buildField_11 rfl (lv_at hl 2 rfl) ?_
    refine ro_i (b2i (sX7_isField p2)) (run_c (va_runSN (As := [.int p2]) (rest := []) ⟨hx, hb, hml, hown, hts⟩ (c_X7_isField l D cs p2) ⟨va_cnB 1 hts (good_code w_co_X7_isField) rfl rfl rfl (hE.2.1 ("TrueSheets$Office", 198, yX7_isField) (List.mem_of_getElem? (i := 10) rfl)) (hts _ w_in_X7) hd_X7_isField ⟨Nat.le_of_ble_eq_true rfl, Nat.le_of_ble_eq_true rfl⟩, hts _ w_st_X7_isField, trivial⟩ (pe_S (p_nil D _) hE) rfl rfl hl.1 rfl (lv_room (Nat.le_of_ble_eq_true rfl)) dX1_buildField_12 ⟨Nat.zero_le _, Nat.zero_le _⟩)) ?_
    refine lv_if_ne (tgt := 21) hx hb dX1_buildField_15 (by decide) (fun c15 => ?_) (fun c15 => ?_)
    · have c15 := b2i_t c15
      have hv := (if_pos c15).symm.trans hv
      refine lv_aload_n hx hb dX1_buildField_21 rfl (lv_at hl 0 rfl) ?_
      refine lv_iload_n hx hb dX1_buildField_22 rfl (lv_at hl 1 rfl) ?_
      refine ro_i (b2i (sX1_mayBuildBy O p1)) (run_c (va_runV (As := [.int p1]) (rest := []) ⟨hx, hb, hml, hown, hts⟩ (c_X1_mayBuildBy l D cs a O p1) (cwV 1 hts (good_V w_ml_X1_152 w_im_X1_mayBuildBy w_se_X1_mayBuildBy w_in_X1 w_co_X1_mayBuildBy) rfl rfl rfl ⟨rfl, hd_X1_mayBuildBy⟩ ⟨Nat.le_of_ble_eq_true rfl, Nat.le_of_ble_eq_true rfl⟩) (pe_W (C := RX1) (T := TX1) (N := 6) (ci := 1) (q0 := 0) hP hE rfl rfl) rfl rfl hl.1 rfl (lv_room (Nat.le_of_ble_eq_true rfl)) dX1_buildField_23 ⟨Nat.zero_le _, Nat.zero_le _⟩)) ?_
      refine lv_if_ne (tgt := 32) hx hb dX1_buildField_26 (by decide) (fun c26 => ?_) (fun c26 => ?_)
      · have c26 := b2i_t c26
        have hv := (if_pos c26).symm.trans hv
        refine lv_aload_n hx hb dX1_buildField_32 rfl (lv_at hl 0 rfl) ?_
        refine va_get (D := D) (ci := 1) (v := .ref (a 3)) (C := RX1) (T := TX1) (N := 6) hx hb hts iw_X1 hown hK hP 0 rfl rfl 2 (by decide) (hts _ w_fl_X1_28) (fun _ h9 => h9) rfl dX1_buildField_33 ?_
        refine lv_aload_n hx hb dX1_buildField_36 rfl (lv_at hl 0 rfl) ?_
        refine va_get (D := D) (ci := 1) (v := .ref (a 2)) (C := RX1) (T := TX1) (N := 6) hx hb hts iw_X1 hown hK hP 0 rfl rfl 1 (by decide) (hts _ w_fl_X1_21) (fun _ h9 => h9) rfl dX1_buildField_37 ?_
        refine lv_iload_n hx hb dX1_buildField_40 rfl (lv_at hl 1 rfl) ?_
        refine ro_i (sX3_siteOf O p1) (run_c (va_runV (As := [.int p1]) (rest := [.ref (a 3)]) ⟨hx, hb, hml, hown, hts⟩ (c_X3_siteOf l D cs a O p1) (cwV 1 hts (good_V w_ml_X1_142 w_im_X3_siteOf w_se_X3_siteOf w_in_X3 w_co_X3_siteOf) rfl rfl rfl ⟨rfl, hd_X3_siteOf⟩ ⟨Nat.le_of_ble_eq_true rfl, Nat.le_of_ble_eq_true rfl⟩) (pe_W (C := RX3) (T := TX3) (N := 8) (ci := 3) (q0 := 2) hP hE rfl rfl) rfl rfl hl.1 rfl (lv_room (Nat.le_of_ble_eq_true rfl)) dX1_buildField_41 ⟨Nat.zero_le _, Nat.zero_le _⟩)) ?_
        refine lv_aload_n hx hb dX1_buildField_44 rfl (lv_at hl 0 rfl) ?_
        refine va_get (D := D) (ci := 1) (v := .ref (a 2)) (C := RX1) (T := TX1) (N := 6) hx hb hts iw_X1 hown hK hP 0 rfl rfl 1 (by decide) (hts _ w_fl_X1_21) (fun _ h9 => h9) rfl dX1_buildField_45 ?_
        refine lv_iload_n hx hb dX1_buildField_48 rfl (lv_at hl 1 rfl) ?_
        refine ro_i (sX3_sheetOf O p1) (run_c (va_runV (As := [.int p1]) (rest := [.int (sX3_siteOf O p1), .ref (a 3)]) ⟨hx, hb, hml, hown, hts⟩ (c_X3_sheetOf l D cs a O p1) (cwV 1 hts (good_V w_ml_X1_81 w_im_X3_sheetOf w_se_X3_sheetOf w_in_X3 w_co_X3_sheetOf) rfl rfl rfl ⟨rfl, hd_X3_sheetOf⟩ ⟨Nat.le_of_ble_eq_true rfl, Nat.le_of_ble_eq_true rfl⟩) (pe_W (C := RX3) (T := TX3) (N := 8) (ci := 3) (q0 := 2) hP hE rfl rfl) rfl rfl hl.1 rfl (lv_room (Nat.le_of_ble_eq_true rfl)) dX1_buildField_49 ⟨Nat.zero_le _, Nat.zero_le _⟩)) ?_
        refine lv_iload_n hx hb dX1_buildField_52 rfl (lv_at hl 2 rfl) ?_
        refine lv_aload_n hx hb dX1_buildField_53 rfl (lv_at hl 0 rfl) ?_
        refine va_get (D := D) (ci := 1) (v := .ref (a 2)) (C := RX1) (T := TX1) (N := 6) hx hb hts iw_X1 hown hK hP 0 rfl rfl 1 (by decide) (hts _ w_fl_X1_21) (fun _ h9 => h9) rfl dX1_buildField_54 ?_
        refine lv_iload_n hx hb dX1_buildField_57 rfl (lv_at hl 1 rfl) ?_
        refine ro_i (sX3_revisionOf O p1) (run_c (va_runV (As := [.int p1]) (rest := [.int p2, .int (sX3_sheetOf O p1), .int (sX3_siteOf O p1), .ref (a 3)]) ⟨hx, hb, hml, hown, hts⟩ (c_X3_revisionOf l D cs a O p1) (cwV 1 hts (good_V w_ml_X1_141 w_im_X3_revisionOf w_se_X3_revisionOf w_in_X3 w_co_X3_revisionOf) rfl rfl rfl ⟨rfl, hd_X3_revisionOf⟩ ⟨Nat.le_of_ble_eq_true rfl, Nat.le_of_ble_eq_true rfl⟩) (pe_W (C := RX3) (T := TX3) (N := 8) (ci := 3) (q0 := 2) hP hE rfl rfl) rfl rfl hl.1 rfl (lv_room (Nat.le_of_ble_eq_true rfl)) dX1_buildField_58 ⟨Nat.zero_le _, Nat.zero_le _⟩)) ?_
        refine w_i (sX6_add O (sX3_siteOf O p1) (sX3_sheetOf O p1) p2 (sX3_revisionOf O p1)) (va_runV (As := [.int (sX3_siteOf O p1), .int (sX3_sheetOf O p1), .int p2, .int (sX3_revisionOf O p1)]) (rest := []) ⟨hx, hb, hml, hown, hts⟩ (c_X6_add l D cs a O (sX3_siteOf O p1) (sX3_sheetOf O p1) p2 (sX3_revisionOf O p1) hd) (cwV 4 hts (good_V w_ml_X1_201 w_im_X6_add w_se_X6_add w_in_X6 w_co_X6_add) rfl rfl rfl ⟨rfl, hd_X6_add⟩ ⟨Nat.le_of_ble_eq_true rfl, Nat.le_of_ble_eq_true rfl⟩) (pe_W (C := RX6) (T := TX6) (N := 5) (ci := 6) (q0 := 3) hP hE rfl rfl) rfl rfl hl.1 rfl (lv_room (Nat.le_of_ble_eq_true rfl)) dX1_buildField_61 ⟨Nat.zero_le _, Nat.zero_le _⟩) hS (fun _ _ h => h) (fun _ h => h) (fun t locs hB hz hk hS => ?_)
        have hP : va_P D vwC (ofW cs a ((sX6_add O (sX3_siteOf O p1) (sX3_sheetOf O p1) p2 (sX3_revisionOf O p1)).2)) t.heap := hB
        exact W.iret (v := (sX6_add O (sX3_siteOf O p1) (sX3_sheetOf O p1) p2 (sX3_revisionOf O p1)).1) hx hb hr (fun t ht hW => ⟨⟨(sX6_add O (sX3_siteOf O p1) (sX3_sheetOf O p1) p2 (sX3_revisionOf O p1)).1, ((sX6_add O (sX3_siteOf O p1) (sX3_sheetOf O p1) p2 (sX3_revisionOf O p1)).2), rfl, pair_eq hv, pw ht hP⟩, hS.F ht⟩) hS.2.2 dX1_buildField_64 (hlocks := hlocks)
      · have c26 := b2i_f c26
        have hv := (if_neg c26).symm.trans hv
        refine lv_bipush (v := (-4)) hx hb dX1_buildField_29 (by decide) ?_
        exact W.iret (v := (-4)) hx hb hr (fun t ht hW => ⟨⟨(-4), O, rfl, pair_eq hv, pw ht hP⟩, hS.F ht⟩) hS.2.2 dX1_buildField_31 (hlocks := hlocks)
    · have c15 := b2i_f c15
      have hv := (if_neg c15).symm.trans hv
      refine lv_bipush (v := (-2)) hx hb dX1_buildField_18 (by decide) ?_
      exact W.iret (v := (-2)) hx hb hr (fun t ht hW => ⟨⟨(-2), O, rfl, pair_eq hv, pw ht hP⟩, hS.F ht⟩) hS.2.2 dX1_buildField_20 (hlocks := hlocks)
theorem hd_X1_mendWork : yX1_mendWork.cls ≠ "java/lang/invoke/MethodHandle" ∧ yX1_mendWork.cls ≠ "java/lang/invoke/VarHandle" ∧ (parseMethodDescriptor yX1_mendWork.desc).map (fun d => d.parameters.length) = some 1 := by decide +kernel
def sX1_mendWork (O : OF) (p1 : Int32) : Int32 × OF := (if (sX6_has O p1) = true then (if (sX1_isWrong O p1) = true then (sX1_wrongWorks (sX6_putRevision O p1 (sX4_revisionOf O (sX6_sheetOf O p1))) (-1) (-1), (sX6_putRevision O p1 (sX4_revisionOf O (sX6_sheetOf O p1)))) else ((-4), O)) else ((-2), O))
set_option maxHeartbeats 4000000 in
set_option maxRecDepth 100000 in
theorem c_X1_mendWork (l : Launch) (D : va_G) (cs : Nat → ClassId) (a : Nat → Nat) (O : OF) (p1 : Int32) (hd : oD a) : Met l yX1_mendWork (wc yX1_mendWork cX1_mendWork 2 (some .int)) ({ frames := 4, cells := 0, slots := 0, locals := 89 } : Room) (va_Pc [.ref (a 0), .int p1] (PE D cs (ofW cs a O))) (va_Qi (fun (r9 : Int32) (u : OF) => r9 = (sX1_mendWork O p1).1 ∧ u = (sX1_mendWork O p1).2) (fun u t => va_P D vwC (ofW cs a u) t.heap) (oA a)) 0 0 (oA a) := by
  obtain ⟨v, hv⟩ : ∃ v, sX1_mendWork O p1 = v := ⟨_, rfl⟩
  rw [hv]
  refine met_o (lv := [(0, .ref (a 0)), (1, .int p1)]) (by decide) (Nat.le_of_ble_eq_true rfl) rfl ?_
  intro p e s m args below meth c ls hx hb hr hml hts hown hlocks hin hP hE hl
  have hown : s.vm.findClass RX1 = some m.cls := hown
  have hK := hE.1
  have hP : va_P D vwC (ofW cs a O) s.heap := hP
  have hS : va_S (oA a) s.heap s.heap [] := va_S.rf
  unfold sX1_mendWork at hv
  refine lv_aload_n hx hb dX1_mendWork_0 rfl (lv_at hl 0 rfl) ?_
  refine va_get (D := D) (ci := 1) (v := .ref (a 3)) (C := RX1) (T := TX1) (N := 6) hx hb hts iw_X1 hown hK hP 0 rfl rfl 2 (by decide) (hts _ w_fl_X1_28) (fun _ h9 => h9) rfl dX1_mendWork_1 ?_
  refine lv_iload_n hx hb dX1_mendWork_4 rfl (lv_at hl 1 rfl) ?_
  refine ro_i (b2i (sX6_has O p1)) (run_c (va_runV (As := [.int p1]) (rest := []) ⟨hx, hb, hml, hown, hts⟩ (c_X6_has l D cs a O p1) (cwV 1 hts (good_V w_ml_X1_202 w_im_X6_has w_se_X6_has w_in_X6 w_co_X6_has) rfl rfl rfl ⟨rfl, hd_X6_has⟩ ⟨Nat.le_of_ble_eq_true rfl, Nat.le_of_ble_eq_true rfl⟩) (pe_W (C := RX6) (T := TX6) (N := 5) (ci := 6) (q0 := 3) hP hE rfl rfl) rfl rfl hl.1 rfl (lv_room (Nat.le_of_ble_eq_true rfl)) dX1_mendWork_5 ⟨Nat.zero_le _, Nat.zero_le _⟩)) ?_
  refine lv_if_ne (tgt := 14) hx hb dX1_mendWork_8 (by decide) (fun c8 => ?_) (fun c8 => ?_)
  · have c8 := b2i_t c8
    have hv := (if_pos c8).symm.trans hv
    refine lv_aload_n hx hb dX1_mendWork_14 rfl (lv_at hl 0 rfl) ?_
    refine lv_iload_n hx hb dX1_mendWork_15 rfl (lv_at hl 1 rfl) ?_
    refine ro_i (b2i (sX1_isWrong O p1)) (run_c (va_runV (As := [.int p1]) (rest := []) ⟨hx, hb, hml, hown, hts⟩ (c_X1_isWrong l D cs a O p1) (cwV 1 hts (good_V w_ml_X1_105 w_im_X1_isWrong w_se_X1_isWrong w_in_X1 w_co_X1_isWrong) rfl rfl rfl ⟨rfl, hd_X1_isWrong⟩ ⟨Nat.le_of_ble_eq_true rfl, Nat.le_of_ble_eq_true rfl⟩) (pe_W (C := RX1) (T := TX1) (N := 6) (ci := 1) (q0 := 0) hP hE rfl rfl) rfl rfl hl.1 rfl (lv_room (Nat.le_of_ble_eq_true rfl)) dX1_mendWork_16 ⟨Nat.zero_le _, Nat.zero_le _⟩)) ?_
    refine lv_if_ne (tgt := 25) hx hb dX1_mendWork_19 (by decide) (fun c19 => ?_) (fun c19 => ?_)
    · have c19 := b2i_t c19
      have hv := (if_pos c19).symm.trans hv
      refine lv_aload_n hx hb dX1_mendWork_25 rfl (lv_at hl 0 rfl) ?_
      refine va_get (D := D) (ci := 1) (v := .ref (a 3)) (C := RX1) (T := TX1) (N := 6) hx hb hts iw_X1 hown hK hP 0 rfl rfl 2 (by decide) (hts _ w_fl_X1_28) (fun _ h9 => h9) rfl dX1_mendWork_26 ?_
      refine lv_iload_n hx hb dX1_mendWork_29 rfl (lv_at hl 1 rfl) ?_
      refine lv_aload_n hx hb dX1_mendWork_30 rfl (lv_at hl 0 rfl) ?_
      refine va_get (D := D) (ci := 1) (v := .ref (a 1)) (C := RX1) (T := TX1) (N := 6) hx hb hts iw_X1 hown hK hP 0 rfl rfl 0 (by decide) (hts _ w_fl_X1_12) (fun _ h9 => h9) rfl dX1_mendWork_31 ?_
      refine lv_aload_n hx hb dX1_mendWork_34 rfl (lv_at hl 0 rfl) ?_
      refine va_get (D := D) (ci := 1) (v := .ref (a 3)) (C := RX1) (T := TX1) (N := 6) hx hb hts iw_X1 hown hK hP 0 rfl rfl 2 (by decide) (hts _ w_fl_X1_28) (fun _ h9 => h9) rfl dX1_mendWork_35 ?_
      refine lv_iload_n hx hb dX1_mendWork_38 rfl (lv_at hl 1 rfl) ?_
      refine ro_i (sX6_sheetOf O p1) (run_c (va_runV (As := [.int p1]) (rest := [.ref (a 1), .int p1, .ref (a 3)]) ⟨hx, hb, hml, hown, hts⟩ (c_X6_sheetOf l D cs a O p1) (cwV 1 hts (good_V w_ml_X1_87 w_im_X6_sheetOf w_se_X6_sheetOf w_in_X6 w_co_X6_sheetOf) rfl rfl rfl ⟨rfl, hd_X6_sheetOf⟩ ⟨Nat.le_of_ble_eq_true rfl, Nat.le_of_ble_eq_true rfl⟩) (pe_W (C := RX6) (T := TX6) (N := 5) (ci := 6) (q0 := 3) hP hE rfl rfl) rfl rfl hl.1 rfl (lv_room (Nat.le_of_ble_eq_true rfl)) dX1_mendWork_39 ⟨Nat.zero_le _, Nat.zero_le _⟩)) ?_
      refine ro_i (sX4_revisionOf O (sX6_sheetOf O p1)) (run_c (va_runV (As := [.int (sX6_sheetOf O p1)]) (rest := [.int p1, .ref (a 3)]) ⟨hx, hb, hml, hown, hts⟩ (c_X4_revisionOf l D cs a O (sX6_sheetOf O p1)) (cwV 1 hts (good_V w_ml_X1_128 w_im_X4_revisionOf w_se_X4_revisionOf w_in_X4 w_co_X4_revisionOf) rfl rfl rfl ⟨rfl, hd_X4_revisionOf⟩ ⟨Nat.le_of_ble_eq_true rfl, Nat.le_of_ble_eq_true rfl⟩) (pe_W (C := RX4) (T := TX4) (N := 5) (ci := 4) (q0 := 1) hP hE rfl rfl) rfl rfl hl.1 rfl (lv_room (Nat.le_of_ble_eq_true rfl)) dX1_mendWork_42 ⟨Nat.zero_le _, Nat.zero_le _⟩)) ?_
      refine w_v (sX6_putRevision O p1 (sX4_revisionOf O (sX6_sheetOf O p1))) (va_runV (As := [.int p1, .int (sX4_revisionOf O (sX6_sheetOf O p1))]) (rest := []) ⟨hx, hb, hml, hown, hts⟩ (c_X6_putRevision l D cs a O p1 (sX4_revisionOf O (sX6_sheetOf O p1)) hd) (cwV 2 hts (good_V w_ml_X1_203 w_im_X6_putRevision w_se_X6_putRevision w_in_X6 w_co_X6_putRevision) rfl rfl rfl ⟨rfl, hd_X6_putRevision⟩ ⟨Nat.le_of_ble_eq_true rfl, Nat.le_of_ble_eq_true rfl⟩) (pe_W (C := RX6) (T := TX6) (N := 5) (ci := 6) (q0 := 3) hP hE rfl rfl) rfl rfl hl.1 rfl (lv_room (Nat.le_of_ble_eq_true rfl)) dX1_mendWork_45 ⟨Nat.zero_le _, Nat.zero_le _⟩) hS (fun _ _ h => h) (fun _ h => h) (fun t locs hB hz hk hS => ?_)
      have hP : va_P D vwC (ofW cs a (sX6_putRevision O p1 (sX4_revisionOf O (sX6_sheetOf O p1)))) t.heap := hB
      refine lv_aload_n hx hb dX1_mendWork_48 rfl (lv_at hl 0 rfl) ?_
      refine lv_iconst (v := (-1)) hx hb dX1_mendWork_49 (by decide) ?_
      refine lv_iconst (v := (-1)) hx hb dX1_mendWork_50 (by decide) ?_
      refine ro_i (sX1_wrongWorks (sX6_putRevision O p1 (sX4_revisionOf O (sX6_sheetOf O p1))) (-1) (-1)) (run_c (va_runV (As := [.int (-1), .int (-1)]) (rest := []) ⟨hx, hb, hml, hown, hts⟩ (c_X1_wrongWorks l D cs a (sX6_putRevision O p1 (sX4_revisionOf O (sX6_sheetOf O p1))) (-1) (-1)) (cwV 2 hts (good_V w_ml_X1_119 w_im_X1_wrongWorks w_se_X1_wrongWorks w_in_X1 w_co_X1_wrongWorks) rfl rfl rfl ⟨rfl, hd_X1_wrongWorks⟩ ⟨Nat.le_of_ble_eq_true rfl, Nat.le_of_ble_eq_true rfl⟩) (pe_W (C := RX1) (T := TX1) (N := 6) (ci := 1) (q0 := 0) hP hE rfl rfl) rfl rfl hl.1 rfl (lv_room (Nat.le_of_ble_eq_true rfl)) dX1_mendWork_51 ⟨Nat.zero_le _, Nat.zero_le _⟩)) ?_
      exact W.iret (v := sX1_wrongWorks (sX6_putRevision O p1 (sX4_revisionOf O (sX6_sheetOf O p1))) (-1) (-1)) hx hb hr (fun t ht hW => ⟨⟨sX1_wrongWorks (sX6_putRevision O p1 (sX4_revisionOf O (sX6_sheetOf O p1))) (-1) (-1), (sX6_putRevision O p1 (sX4_revisionOf O (sX6_sheetOf O p1))), rfl, pair_eq hv, pw ht hP⟩, hS.F ht⟩) hS.2.2 dX1_mendWork_54 (hlocks := hlocks)
    · have c19 := b2i_f c19
      have hv := (if_neg c19).symm.trans hv
      refine lv_bipush (v := (-4)) hx hb dX1_mendWork_22 (by decide) ?_
      exact W.iret (v := (-4)) hx hb hr (fun t ht hW => ⟨⟨(-4), O, rfl, pair_eq hv, pw ht hP⟩, hS.F ht⟩) hS.2.2 dX1_mendWork_24 (hlocks := hlocks)
  · have c8 := b2i_f c8
    have hv := (if_neg c8).symm.trans hv
    refine lv_bipush (v := (-2)) hx hb dX1_mendWork_11 (by decide) ?_
    exact W.iret (v := (-2)) hx hb hr (fun t ht hW => ⟨⟨(-2), O, rfl, pair_eq hv, pw ht hP⟩, hS.F ht⟩) hS.2.2 dX1_mendWork_13 (hlocks := hlocks)
theorem hd_X1_passDays : yX1_passDays.cls ≠ "java/lang/invoke/MethodHandle" ∧ yX1_passDays.cls ≠ "java/lang/invoke/VarHandle" ∧ (parseMethodDescriptor yX1_passDays.desc).map (fun d => d.parameters.length) = some 1 := by decide +kernel
def sX1_passDays (O : OF) (p1 : Int32) : Int32 × OF := (if (sX7_isDays p1) = true then (sX1_costOfNext O p1, (stS (stS O 5 ((O.1 5) + p1)) 6 ((O.1 6) + (sX1_costOfNext O p1)))) else ((-3), O))
set_option maxHeartbeats 4000000 in
set_option maxRecDepth 100000 in
theorem c_X1_passDays (l : Launch) (D : va_G) (cs : Nat → ClassId) (a : Nat → Nat) (O : OF) (p1 : Int32) (hd : oD a) : Met l yX1_passDays (wc yX1_passDays cX1_passDays 3 (some .int)) ({ frames := 5, cells := 0, slots := 0, locals := 108 } : Room) (va_Pc [.ref (a 0), .int p1] (PE D cs (ofW cs a O))) (va_Qi (fun (r9 : Int32) (u : OF) => r9 = (sX1_passDays O p1).1 ∧ u = (sX1_passDays O p1).2) (fun u t => va_P D vwC (ofW cs a u) t.heap) (oA a)) 0 0 (oA a) := by
  obtain ⟨v, hv⟩ : ∃ v, sX1_passDays O p1 = v := ⟨_, rfl⟩
  rw [hv]
  refine met_o (lv := [(0, .ref (a 0)), (1, .int p1)]) (by decide) (Nat.le_of_ble_eq_true rfl) rfl ?_
  intro p e s m args below meth c ls hx hb hr hml hts hown hlocks hin hP hE hl
  have hown : s.vm.findClass RX1 = some m.cls := hown
  have hK := hE.1
  have hP : va_P D vwC (ofW cs a O) s.heap := hP
  have hS : va_S (oA a) s.heap s.heap [] := va_S.rf
  unfold sX1_passDays at hv
  refine lv_iload_n hx hb dX1_passDays_0 rfl (lv_at hl 1 rfl) ?_
  refine ro_i (b2i (sX7_isDays p1)) (run_c (va_runSN (As := [.int p1]) (rest := []) ⟨hx, hb, hml, hown, hts⟩ (c_X7_isDays l D cs p1) ⟨va_cnB 1 hts (good_code w_co_X7_isDays) rfl rfl rfl (hE.2.1 ("TrueSheets$Office", 206, yX7_isDays) (List.mem_of_getElem? (i := 8) rfl)) (hts _ w_in_X7) hd_X7_isDays ⟨Nat.le_of_ble_eq_true rfl, Nat.le_of_ble_eq_true rfl⟩, hts _ w_st_X7_isDays, trivial⟩ (pe_S (p_nil D _) hE) rfl rfl hl.1 rfl (lv_room (Nat.le_of_ble_eq_true rfl)) dX1_passDays_1 ⟨Nat.zero_le _, Nat.zero_le _⟩)) ?_
  refine lv_if_ne (tgt := 10) hx hb dX1_passDays_4 (by decide) (fun c4 => ?_) (fun c4 => ?_)
  · have c4 := b2i_t c4
    have hv := (if_pos c4).symm.trans hv
    refine lv_aload_n hx hb dX1_passDays_10 rfl (lv_at hl 0 rfl) ?_
    refine lv_iload_n hx hb dX1_passDays_11 rfl (lv_at hl 1 rfl) ?_
    refine ro_i (sX1_costOfNext O p1) (run_c (va_runV (As := [.int p1]) (rest := []) ⟨hx, hb, hml, hown, hts⟩ (c_X1_costOfNext l D cs a O p1) (cwV 1 hts (good_V w_ml_X1_209 w_im_X1_costOfNext w_se_X1_costOfNext w_in_X1 w_co_X1_costOfNext) rfl rfl rfl ⟨rfl, hd_X1_costOfNext⟩ ⟨Nat.le_of_ble_eq_true rfl, Nat.le_of_ble_eq_true rfl⟩) (pe_W (C := RX1) (T := TX1) (N := 6) (ci := 1) (q0 := 0) hP hE rfl rfl) rfl rfl hl.1 rfl (lv_room (Nat.le_of_ble_eq_true rfl)) dX1_passDays_12 ⟨Nat.zero_le _, Nat.zero_le _⟩)) ?_
    refine lv_istore_n (lv' := [(2, .int (sX1_costOfNext O p1)), (0, .ref (a 0)), (1, .int p1)]) hx hb dX1_passDays_15 rfl hl (by decide) rfl (fun ls hl => ?_)
    refine lv_aload_n hx hb dX1_passDays_16 rfl (lv_at hl 1 rfl) ?_
    refine lv_dup hx hb dX1_passDays_17 rfl ?_
    refine va_get (D := D) (ci := 1) (v := .int (O.1 5)) (C := RX1) (T := TX1) (N := 6) hx hb hts iw_X1 hown hK hP 0 rfl rfl 4 (by decide) (hts _ w_fl_X1_42) (fun _ h9 => h9) rfl dX1_passDays_18 ?_
    refine lv_iload_n hx hb dX1_passDays_21 rfl (lv_at hl 2 rfl) ?_
    refine lv_iadd hx hb dX1_passDays_22 ?_
    refine va_put (D := D) (ci := 1) (v := .int ((O.1 5) + p1)) (ty := .int) (C := RX1) (T := TX1) (N := 6) hx hb hts iw_X1 tyX1 tyX1_ok nmX1 hown hK hP (of_D cs O hd) hS 0 rfl rfl 4 (by decide) (hts _ w_fl_X1_42) (fun _ h9 => h9) rfl (by decide +kernel) rfl rfl (Nat.le_of_ble_eq_true rfl) dX1_passDays_23 (fun H locs hP _ hS => ?_)
    have hP : va_P D vwC (ofW cs a (stS O 5 ((O.1 5) + p1))) H := hP
    refine lv_aload_n hx hb dX1_passDays_26 rfl (lv_at hl 1 rfl) ?_
    refine lv_dup hx hb dX1_passDays_27 rfl ?_
    refine va_get (D := D) (ci := 1) (v := .int (O.1 6)) (C := RX1) (T := TX1) (N := 6) hx hb hts iw_X1 hown hK hP 0 rfl rfl 5 (by decide) (hts _ w_fl_X1_46) (fun _ h9 => h9) rfl dX1_passDays_28 ?_
    refine lv_iload_n hx hb dX1_passDays_31 rfl (lv_at hl 0 rfl) ?_
    refine lv_iadd hx hb dX1_passDays_32 ?_
    refine va_put (D := D) (ci := 1) (v := .int ((O.1 6) + (sX1_costOfNext O p1))) (ty := .int) (C := RX1) (T := TX1) (N := 6) hx hb hts iw_X1 tyX1 tyX1_ok nmX1 hown hK hP (of_D cs (stS O 5 ((O.1 5) + p1)) hd) hS 0 rfl rfl 5 (by decide) (hts _ w_fl_X1_46) (fun _ h9 => h9) rfl (by decide +kernel) rfl rfl (Nat.le_of_ble_eq_true rfl) dX1_passDays_33 (fun H locs hP _ hS => ?_)
    have hP : va_P D vwC (ofW cs a (stS (stS O 5 ((O.1 5) + p1)) 6 ((O.1 6) + (sX1_costOfNext O p1)))) H := hP
    refine lv_iload_n hx hb dX1_passDays_36 rfl (lv_at hl 0 rfl) ?_
    exact W.iret (v := sX1_costOfNext O p1) hx hb hr (fun t ht hW => ⟨⟨sX1_costOfNext O p1, (stS (stS O 5 ((O.1 5) + p1)) 6 ((O.1 6) + (sX1_costOfNext O p1))), rfl, pair_eq hv, pw ht hP⟩, hS.F ht⟩) hS.2.2 dX1_passDays_37 (hlocks := hlocks)
  · have c4 := b2i_f c4
    have hv := (if_neg c4).symm.trans hv
    refine lv_bipush (v := (-3)) hx hb dX1_passDays_7 (by decide) ?_
    exact W.iret (v := (-3)) hx hb hr (fun t ht hW => ⟨⟨(-3), O, rfl, pair_eq hv, pw ht hP⟩, hS.F ht⟩) hS.2.2 dX1_passDays_9 (hlocks := hlocks)
theorem hd_X1_changeSetting : yX1_changeSetting.cls ≠ "java/lang/invoke/MethodHandle" ∧ yX1_changeSetting.cls ≠ "java/lang/invoke/VarHandle" ∧ (parseMethodDescriptor yX1_changeSetting.desc).map (fun d => d.parameters.length) = some 2 := by decide +kernel
def sX1_changeSetting (O : OF) (p1 : Int32) (p2 : Int32) : Int32 × OF := (if (sX7_isSetting p1) = true then (if p2 < 0 then ((-3), O) else (if p2 ≤ (sX1_mostOfSetting p1) then ((O.2 4) p1.toNatClampNeg, (stA O 4 (upd (O.2 4) p1.toNatClampNeg p2))) else ((-3), O))) else ((-3), O))
set_option maxHeartbeats 4000000 in
set_option maxRecDepth 100000 in
theorem c_X1_changeSetting (l : Launch) (D : va_G) (cs : Nat → ClassId) (a : Nat → Nat) (O : OF) (p1 : Int32) (p2 : Int32) (hd : oD a) : Met l yX1_changeSetting (wc yX1_changeSetting cX1_changeSetting 4 (some .int)) ({ frames := 1, cells := 0, slots := 0, locals := 20 } : Room) (va_Pc [.ref (a 0), .int p1, .int p2] (PE D cs (ofW cs a O))) (va_Qi (fun (r9 : Int32) (u : OF) => r9 = (sX1_changeSetting O p1 p2).1 ∧ u = (sX1_changeSetting O p1 p2).2) (fun u t => va_P D vwC (ofW cs a u) t.heap) (oA a)) 0 0 (oA a) := by
  obtain ⟨v, hv⟩ : ∃ v, sX1_changeSetting O p1 p2 = v := ⟨_, rfl⟩
  rw [hv]
  refine met_o (lv := [(0, .ref (a 0)), (1, .int p1), (2, .int p2)]) (by decide) (Nat.le_of_ble_eq_true rfl) rfl ?_
  intro p e s m args below meth c ls hx hb hr hml hts hown hlocks hin hP hE hl
  have hown : s.vm.findClass RX1 = some m.cls := hown
  have hK := hE.1
  have hP : va_P D vwC (ofW cs a O) s.heap := hP
  have hS : va_S (oA a) s.heap s.heap [] := va_S.rf
  unfold sX1_changeSetting at hv
  refine lv_iload_n hx hb dX1_changeSetting_0 rfl (lv_at hl 1 rfl) ?_
  refine ro_i (b2i (sX7_isSetting p1)) (run_c (va_runSN (As := [.int p1]) (rest := []) ⟨hx, hb, hml, hown, hts⟩ (c_X7_isSetting l D cs p1) ⟨va_cnB 1 hts (good_code w_co_X7_isSetting) rfl rfl rfl (hE.2.1 ("TrueSheets$Office", 65, yX7_isSetting) (List.mem_of_getElem? (i := 5) rfl)) (hts _ w_in_X7) hd_X7_isSetting ⟨Nat.le_of_ble_eq_true rfl, Nat.le_of_ble_eq_true rfl⟩, hts _ w_st_X7_isSetting, trivial⟩ (pe_S (p_nil D _) hE) rfl rfl hl.1 rfl (lv_room (Nat.le_of_ble_eq_true rfl)) dX1_changeSetting_1 ⟨Nat.zero_le _, Nat.zero_le _⟩)) ?_
  refine lv_if_eq (tgt := 19) hx hb dX1_changeSetting_4 (by decide) (fun c4 => ?_) (fun c4 => ?_)
  · have c4 := b2i_f c4
    have hv := (if_neg c4).symm.trans hv
    refine lv_bipush (v := (-3)) hx hb dX1_changeSetting_19 (by decide) ?_
    exact W.iret (v := (-3)) hx hb hr (fun t ht hW => ⟨⟨(-3), O, rfl, pair_eq hv, pw ht hP⟩, hS.F ht⟩) hS.2.2 dX1_changeSetting_21 (hlocks := hlocks)
  · have c4 := b2i_t c4
    have hv := (if_pos c4).symm.trans hv
    refine lv_iload_n hx hb dX1_changeSetting_7 rfl (lv_at hl 2 rfl) ?_
    refine lv_if_lt (tgt := 19) hx hb dX1_changeSetting_8 (by decide) (fun c8 => ?_) (fun c8 => ?_)
    · have hv := (if_pos c8).symm.trans hv
      refine lv_bipush (v := (-3)) hx hb dX1_changeSetting_19 (by decide) ?_
      exact W.iret (v := (-3)) hx hb hr (fun t ht hW => ⟨⟨(-3), O, rfl, pair_eq hv, pw ht hP⟩, hS.F ht⟩) hS.2.2 dX1_changeSetting_21 (hlocks := hlocks)
    · have hv := (if_neg c8).symm.trans hv
      refine lv_iload_n hx hb dX1_changeSetting_11 rfl (lv_at hl 2 rfl) ?_
      refine lv_iload_n hx hb dX1_changeSetting_12 rfl (lv_at hl 1 rfl) ?_
      refine ro_i (sX1_mostOfSetting p1) (run_c (va_runS (As := [.int p1]) (rest := [.int p2]) ⟨hx, hb, hml, hown, hts⟩ (c_X1_mostOfSetting l D cs p1) (cwS 1 hts (good_S w_ml_X1_212 w_st_X1_mostOfSetting w_in_X1 w_co_X1_mostOfSetting) rfl rfl rfl ⟨rfl, hd_X1_mostOfSetting⟩ ⟨Nat.le_of_ble_eq_true rfl, Nat.le_of_ble_eq_true rfl⟩) (pe_S (p_nil D _) hE) rfl rfl hl.1 rfl (lv_room (Nat.le_of_ble_eq_true rfl)) dX1_changeSetting_13 ⟨Nat.zero_le _, Nat.zero_le _⟩)) ?_
      refine lv_icmp_le (tgt := 22) hx hb dX1_changeSetting_16 (by decide) (fun c16 => ?_) (fun c16 => ?_)
      · have hv := (if_pos c16).symm.trans hv
        refine lv_aload_n hx hb dX1_changeSetting_22 rfl (lv_at hl 0 rfl) ?_
        refine va_get (D := D) (ci := 1) (v := .ref (a 4)) (C := RX1) (T := TX1) (N := 6) hx hb hts iw_X1 hown hK hP 0 rfl rfl 3 (by decide) (hts _ w_fl_X1_32) (fun _ h9 => h9) rfl dX1_changeSetting_23 ?_
        refine lv_iload_n hx hb dX1_changeSetting_26 rfl (lv_at hl 1 rfl) ?_
        refine va_iald (cA := cs 0) (n := 3) (f := (O.2 4)) hx hb hK hP 4 0 rfl rfl (by first | exact X1_in (by assumption) | exact in_X7_isSetting (by assumption)) dX1_changeSetting_27 ?_
        refine lv_istore_n (lv' := [(3, .int ((O.2 4) p1.toNatClampNeg)), (0, .ref (a 0)), (1, .int p1), (2, .int p2)]) hx hb dX1_changeSetting_28 rfl hl (by decide) rfl (fun ls hl => ?_)
        refine lv_aload_n hx hb dX1_changeSetting_29 rfl (lv_at hl 1 rfl) ?_
        refine va_get (D := D) (ci := 1) (v := .ref (a 4)) (C := RX1) (T := TX1) (N := 6) hx hb hts iw_X1 hown hK hP 0 rfl rfl 3 (by decide) (hts _ w_fl_X1_32) (fun _ h9 => h9) rfl dX1_changeSetting_30 ?_
        refine lv_iload_n hx hb dX1_changeSetting_33 rfl (lv_at hl 2 rfl) ?_
        refine lv_iload_n hx hb dX1_changeSetting_34 rfl (lv_at hl 3 rfl) ?_
        refine va_iast (cA := cs 0) (n := 3) (f := (O.2 4)) hx hb hK hP (of_D cs O hd) hS 4 0 rfl rfl (by first | exact X1_in (by assumption) | exact in_X7_isSetting (by assumption)) dX1_changeSetting_35 (fun H locs hP _ hS => ?_)
        have hP : va_P D vwC (ofW cs a (stA O 4 (upd (O.2 4) p1.toNatClampNeg p2))) H := hP
        refine lv_iload_n hx hb dX1_changeSetting_36 rfl (lv_at hl 0 rfl) ?_
        exact W.iret (v := (O.2 4) p1.toNatClampNeg) hx hb hr (fun t ht hW => ⟨⟨(O.2 4) p1.toNatClampNeg, (stA O 4 (upd (O.2 4) p1.toNatClampNeg p2)), rfl, pair_eq hv, pw ht hP⟩, hS.F ht⟩) hS.2.2 dX1_changeSetting_37 (hlocks := hlocks)
      · have hv := (if_neg c16).symm.trans hv
        refine lv_bipush (v := (-3)) hx hb dX1_changeSetting_19 (by decide) ?_
        exact W.iret (v := (-3)) hx hb hr (fun t ht hW => ⟨⟨(-3), O, rfl, pair_eq hv, pw ht hP⟩, hS.F ht⟩) hS.2.2 dX1_changeSetting_21 (hlocks := hlocks)
