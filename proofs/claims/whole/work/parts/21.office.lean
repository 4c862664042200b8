theorem hd_X1_settingOf : yX1_settingOf.cls ≠ "java/lang/invoke/MethodHandle" ∧ yX1_settingOf.cls ≠ "java/lang/invoke/VarHandle" ∧ (parseMethodDescriptor yX1_settingOf.desc).map (fun d => d.parameters.length) = some 1 := by decide +kernel
def sX1_settingOf (O : OF) (p1 : Int32) : Int32 := (if (sX7_isSetting p1) = true then (O.2 4) p1.toNatClampNeg else (-1 : Int32))
set_option maxHeartbeats 4000000 in
set_option maxRecDepth 100000 in
theorem c_X1_settingOf (l : Launch) (D : va_G) (cs : Nat → ClassId) (a : Nat → Nat) (O : OF) (p1 : Int32) : Met l yX1_settingOf (wc yX1_settingOf cX1_settingOf 2 (some .int)) ({ frames := 1, cells := 0, slots := 0, locals := 20 } : Room) (va_Pc [.ref (a 0), .int p1] (PE D cs (ofW cs a O))) (vp_Si (fun r9 => r9 = (sX1_settingOf O p1))) 0 0 (fun _ => False) := by
  obtain ⟨v, hv⟩ : ∃ v, sX1_settingOf O p1 = v := ⟨_, rfl⟩
  rw [hv]
  refine met_o (lv := [(0, .ref (a 0)), (1, .int p1)]) (by decide) (Nat.le_of_ble_eq_true rfl) rfl ?_
  intro p e s m args below meth c ls hx hb hr hml hts hown hlocks hin hP hE hl
  have hown : s.vm.findClass RX1 = some m.cls := hown
  have hK := hE.1
  have hP : va_P D vwC (ofW cs a O) s.heap := hP
  unfold sX1_settingOf at hv
  refine lv_iload_n hx hb dX1_settingOf_0 rfl (lv_at hl 1 rfl) ?_
  refine ro_i (b2i (sX7_isSetting p1)) (run_c (va_runSN (As := [.int p1]) (rest := []) ⟨hx, hb, hml, hown, hts⟩ (c_X7_isSetting l D cs p1) ⟨va_cnB 1 hts (good_code w_co_X7_isSetting) rfl rfl rfl (hE.2.1 ("TrueSheets$Office", 65, yX7_isSetting) (List.mem_of_getElem? (i := 5) rfl)) (hts _ w_in_X7) hd_X7_isSetting ⟨Nat.le_of_ble_eq_true rfl, Nat.le_of_ble_eq_true rfl⟩, hts _ w_st_X7_isSetting, trivial⟩ (pe_S (p_nil D _) hE) rfl rfl hl.1 rfl (lv_room (Nat.le_of_ble_eq_true rfl)) dX1_settingOf_1 ⟨Nat.zero_le _, Nat.zero_le _⟩)) ?_
  refine join_i (J := 17) (ls := ls) (rest := []) ((if (sX7_isSetting p1) = true then (O.2 4) p1.toNatClampNeg else (-1 : Int32))) ?_ (fun hJ => ?_)
  · exact W.iret (v := (if (sX7_isSetting p1) = true then (O.2 4) p1.toNatClampNeg else (-1 : Int32))) hx hb hr (fun t ht hW => ⟨(if (sX7_isSetting p1) = true then (O.2 4) p1.toNatClampNeg else (-1 : Int32)), rfl, hv, ht⟩) (fun _ h => nomatch h) dX1_settingOf_17 (hlocks := hlocks)
  · refine lv_if_eq (tgt := 16) hx hb dX1_settingOf_4 (by decide) (fun c4 => ?_) (fun c4 => ?_)
    · have c4 := b2i_f c4
      refine lv_iconst (v := (-1)) hx hb dX1_settingOf_16 (by decide) ?_
      exact hJ _ ((if_neg c4).trans rfl)
    · have c4 := b2i_t c4
      refine lv_aload_n hx hb dX1_settingOf_7 rfl (lv_at hl 0 rfl) ?_
      refine va_get (D := D) (ci := 1) (v := .ref (a 4)) (C := RX1) (T := TX1) (N := 6) hx hb hts iw_X1 hown hK hP 0 rfl rfl 3 (by decide) (hts _ w_fl_X1_32) (fun _ h9 => h9) rfl dX1_settingOf_8 ?_
      refine lv_iload_n hx hb dX1_settingOf_11 rfl (lv_at hl 1 rfl) ?_
      refine va_iald (cA := cs 0) (n := 3) (f := (O.2 4)) hx hb hK hP 4 0 rfl rfl (by first | exact X1_in (by assumption) | exact in_X7_isSetting (by assumption)) dX1_settingOf_12 ?_
      refine lv_goto (tgt := 17) hx hb dX1_settingOf_13 (by decide) ?_
      exact hJ _ ((if_pos c4).trans rfl)
theorem hd_X1_mostOfSetting : yX1_mostOfSetting.cls ≠ "java/lang/invoke/MethodHandle" ∧ yX1_mostOfSetting.cls ≠ "java/lang/invoke/VarHandle" ∧ (parseMethodDescriptor yX1_mostOfSetting.desc).map (fun d => d.parameters.length) = some 1 := by decide +kernel
def sX1_mostOfSetting (p1 : Int32) : Int32 := (if p1 = 0 then 20 else (if p1 = 1 then 3 else 99))
set_option maxHeartbeats 4000000 in
set_option maxRecDepth 100000 in
theorem c_X1_mostOfSetting (l : Launch) (D : va_G) (cs : Nat → ClassId) (p1 : Int32) : Met l yX1_mostOfSetting (wc yX1_mostOfSetting cX1_mostOfSetting 1 (some .int)) ({ frames := 0, cells := 0, slots := 0, locals := 0 } : Room) (va_Pc [.int p1] (PE D cs ([]))) (vp_Si (fun r9 => r9 = (sX1_mostOfSetting p1))) 0 0 (fun _ => False) := by
  obtain ⟨v, hv⟩ : ∃ v, sX1_mostOfSetting p1 = v := ⟨_, rfl⟩
  rw [hv]
  refine met_o (lv := [(0, .int p1)]) (by decide) (Nat.le_of_ble_eq_true rfl) rfl ?_
  intro p e s m args below meth c ls hx hb hr hml hts hown hlocks hin hP hE hl
  have hown : s.vm.findClass RX1 = some m.cls := hown
  have hK := hE.1
  have hP : va_P D vwC ([]) s.heap := hP
  unfold sX1_mostOfSetting at hv
  refine lv_iload_n hx hb dX1_mostOfSetting_0 rfl (lv_at hl 0 rfl) ?_
  by_cases c1_0 : p1 = 0
  · have hv := (if_pos c1_0).symm.trans hv
    refine lv_lookup (off := 27) (tgt := 28) hx hb dX1_mostOfSetting_1 (by decide) (by rw [c1_0]; rfl) (by decide) ?_
    refine lv_bipush (v := 20) hx hb dX1_mostOfSetting_28 (by decide) ?_
    exact W.iret (v := 20) hx hb hr (fun t ht hW => ⟨20, rfl, hv, ht⟩) (fun _ h => nomatch h) dX1_mostOfSetting_30 (hlocks := hlocks)
  · have hv := (if_neg c1_0).symm.trans hv
    by_cases c1_1 : p1 = 1
    · have hv := (if_pos c1_1).symm.trans hv
      refine lv_lookup (off := 30) (tgt := 31) hx hb dX1_mostOfSetting_1 (by decide) (by rw [c1_1]; rfl) (by decide) ?_
      refine lv_iconst (v := 3) hx hb dX1_mostOfSetting_31 (by decide) ?_
      exact W.iret (v := 3) hx hb hr (fun t ht hW => ⟨3, rfl, hv, ht⟩) (fun _ h => nomatch h) dX1_mostOfSetting_32 (hlocks := hlocks)
    · have hv := (if_neg c1_1).symm.trans hv
      have e0 : p1.toInt ≠ 0 := sw_ne c1_0
      have e1 : p1.toInt ≠ 1 := sw_ne c1_1
      refine lv_lookup (off := 32) (tgt := 33) hx hb dX1_mostOfSetting_1 (by decide) (by simp [Op.lookupswitch.offset, List.find?, Ne.symm e0, Ne.symm e1]) (by decide) ?_
      refine lv_bipush (v := 99) hx hb dX1_mostOfSetting_33 (by decide) ?_
      exact W.iret (v := 99) hx hb hr (fun t ht hW => ⟨99, rfl, hv, ht⟩) (fun _ h => nomatch h) dX1_mostOfSetting_35 (hlocks := hlocks)
theorem hd_X1_mayBuildBy : yX1_mayBuildBy.cls ≠ "java/lang/invoke/MethodHandle" ∧ yX1_mayBuildBy.cls ≠ "java/lang/invoke/VarHandle" ∧ (parseMethodDescriptor yX1_mayBuildBy.desc).map (fun d => d.parameters.length) = some 1 := by decide +kernel
def sX1_mayBuildBy (O : OF) (p1 : Int32) : Bool := (if (sX3_isOutNotRecalled O p1) = true then (if (sJ6_bitCount_0f7a4 (sX3_stampsOf O p1)) < ((O.2 4) (1 : Int32).toNatClampNeg) then false else (if (sX4_isToCheck O (sX3_sheetOf O p1)) = true then false else true)) else false)
set_option maxHeartbeats 4000000 in
set_option maxRecDepth 100000 in
theorem c_X1_mayBuildBy (l : Launch) (D : va_G) (cs : Nat → ClassId) (a : Nat → Nat) (O : OF) (p1 : Int32) : Met l yX1_mayBuildBy (wc yX1_mayBuildBy cX1_mayBuildBy 2 (some .boolean)) ({ frames := 3, cells := 0, slots := 0, locals := 63 } : Room) (va_Pc [.ref (a 0), .int p1] (PE D cs (ofW cs a O))) (vp_Si (fun r9 => r9 = b2i (sX1_mayBuildBy O p1))) 0 0 (fun _ => False) := by
  obtain ⟨v, hv⟩ : ∃ v, sX1_mayBuildBy O p1 = v := ⟨_, rfl⟩
  rw [hv]
  refine met_o (lv := [(0, .ref (a 0)), (1, .int p1)]) (by decide) (Nat.le_of_ble_eq_true rfl) rfl ?_
  intro p e s m args below meth c ls hx hb hr hml hts hown hlocks hin hP hE hl
  have hown : s.vm.findClass RX1 = some m.cls := hown
  have hK := hE.1
  have hP : va_P D vwC (ofW cs a O) s.heap := hP
  unfold sX1_mayBuildBy at hv
  refine lv_aload_n hx hb dX1_mayBuildBy_0 rfl (lv_at hl 0 rfl) ?_
  refine va_get (D := D) (ci := 1) (v := .ref (a 2)) (C := RX1) (T := TX1) (N := 6) hx hb hts iw_X1 hown hK hP 0 rfl rfl 1 (by decide) (hts _ w_fl_X1_21) (fun _ h9 => h9) rfl dX1_mayBuildBy_1 ?_
  refine lv_iload_n hx hb dX1_mayBuildBy_4 rfl (lv_at hl 1 rfl) ?_
  refine ro_i (b2i (sX3_isOutNotRecalled O p1)) (run_c (va_runV (As := [.int p1]) (rest := []) ⟨hx, hb, hml, hown, hts⟩ (c_X3_isOutNotRecalled l D cs a O p1) (cwV 1 hts (good_V w_ml_X1_69 w_im_X3_isOutNotRecalled w_se_X3_isOutNotRecalled w_in_X3 w_co_X3_isOutNotRecalled) rfl rfl rfl ⟨rfl, hd_X3_isOutNotRecalled⟩ ⟨Nat.le_of_ble_eq_true rfl, Nat.le_of_ble_eq_true rfl⟩) (pe_W (C := RX3) (T := TX3) (N := 8) (ci := 3) (q0 := 2) hP hE rfl rfl) rfl rfl hl.1 rfl (lv_room (Nat.le_of_ble_eq_true rfl)) dX1_mayBuildBy_5 ⟨Nat.zero_le _, Nat.zero_le _⟩)) ?_
  refine join_i (J := 54) (ls := ls) (rest := []) (b2i (if (sX3_isOutNotRecalled O p1) = true then (if (sJ6_bitCount_0f7a4 (sX3_stampsOf O p1)) < ((O.2 4) (1 : Int32).toNatClampNeg) then false else (if (sX4_isToCheck O (sX3_sheetOf O p1)) = true then false else true)) else false)) ?_ (fun hJ => ?_)
  · exact W.zret (ty := .boolean) (v := b2i (if (sX3_isOutNotRecalled O p1) = true then (if (sJ6_bitCount_0f7a4 (sX3_stampsOf O p1)) < ((O.2 4) (1 : Int32).toNatClampNeg) then false else (if (sX4_isToCheck O (sX3_sheetOf O p1)) = true then false else true)) else false)) hx hb hr (b2i_nar (if (sX3_isOutNotRecalled O p1) = true then (if (sJ6_bitCount_0f7a4 (sX3_stampsOf O p1)) < ((O.2 4) (1 : Int32).toNatClampNeg) then false else (if (sX4_isToCheck O (sX3_sheetOf O p1)) = true then false else true)) else false)) (fun t ht hW => ⟨b2i (if (sX3_isOutNotRecalled O p1) = true then (if (sJ6_bitCount_0f7a4 (sX3_stampsOf O p1)) < ((O.2 4) (1 : Int32).toNatClampNeg) then false else (if (sX4_isToCheck O (sX3_sheetOf O p1)) = true then false else true)) else false), rfl, congrArg b2i hv, ht⟩) (fun _ h => nomatch h) dX1_mayBuildBy_54 (hlocks := hlocks)
  · refine lv_if_eq (tgt := 53) hx hb dX1_mayBuildBy_8 (by decide) (fun c8 => ?_) (fun c8 => ?_)
    · have c8 := b2i_f c8
      refine lv_iconst (v := 0) hx hb dX1_mayBuildBy_53 (by decide) ?_
      exact hJ _ (congrArg b2i ((if_neg c8).trans rfl))
    · have c8 := b2i_t c8
      refine lv_aload_n hx hb dX1_mayBuildBy_11 rfl (lv_at hl 0 rfl) ?_
      refine va_get (D := D) (ci := 1) (v := .ref (a 2)) (C := RX1) (T := TX1) (N := 6) hx hb hts iw_X1 hown hK hP 0 rfl rfl 1 (by decide) (hts _ w_fl_X1_21) (fun _ h9 => h9) rfl dX1_mayBuildBy_12 ?_
      refine lv_iload_n hx hb dX1_mayBuildBy_15 rfl (lv_at hl 1 rfl) ?_
      refine ro_i (sX3_stampsOf O p1) (run_c (va_runV (As := [.int p1]) (rest := []) ⟨hx, hb, hml, hown, hts⟩ (c_X3_stampsOf l D cs a O p1) (cwV 1 hts (good_V w_ml_X1_72 w_im_X3_stampsOf w_se_X3_stampsOf w_in_X3 w_co_X3_stampsOf) rfl rfl rfl ⟨rfl, hd_X3_stampsOf⟩ ⟨Nat.le_of_ble_eq_true rfl, Nat.le_of_ble_eq_true rfl⟩) (pe_W (C := RX3) (T := TX3) (N := 8) (ci := 3) (q0 := 2) hP hE rfl rfl) rfl rfl hl.1 rfl (lv_room (Nat.le_of_ble_eq_true rfl)) dX1_mayBuildBy_16 ⟨Nat.zero_le _, Nat.zero_le _⟩)) ?_
      refine ro_i (sJ6_bitCount_0f7a4 (sX3_stampsOf O p1)) (run_c (va_runS (As := [.int (sX3_stampsOf O p1)]) (rest := []) ⟨hx, hb, hml, hown, hts⟩ (c_J6_bitCount_0f7a4 l D cs (sX3_stampsOf O p1)) (va_cwS 1 hts (good_T w_ml_X1_76 w_st_J6_bitCount_0f7a4 w_in_J6 w_co_J6_bitCount_0f7a4) rfl rfl rfl hd_J6_bitCount_0f7a4 ⟨Nat.le_of_ble_eq_true rfl, Nat.le_of_ble_eq_true rfl⟩) (pe_S (p_nil D _) hE) rfl rfl hl.1 rfl (lv_room (Nat.le_of_ble_eq_true rfl)) dX1_mayBuildBy_19 ⟨Nat.zero_le _, Nat.zero_le _⟩)) ?_
      refine lv_aload_n hx hb dX1_mayBuildBy_22 rfl (lv_at hl 0 rfl) ?_
      refine va_get (D := D) (ci := 1) (v := .ref (a 4)) (C := RX1) (T := TX1) (N := 6) hx hb hts iw_X1 hown hK hP 0 rfl rfl 3 (by decide) (hts _ w_fl_X1_32) (fun _ h9 => h9) rfl dX1_mayBuildBy_23 ?_
      refine lv_iconst (v := 1) hx hb dX1_mayBuildBy_26 (by decide) ?_
      refine va_iald (cA := cs 0) (n := 3) (f := (O.2 4)) hx hb hK hP 4 0 rfl rfl (by unfold vp_in; decide) dX1_mayBuildBy_27 ?_
      refine lv_icmp_lt (tgt := 53) hx hb dX1_mayBuildBy_28 (by decide) (fun c28 => ?_) (fun c28 => ?_)
      · refine lv_iconst (v := 0) hx hb dX1_mayBuildBy_53 (by decide) ?_
        exact hJ _ (congrArg b2i ((if_pos c8).trans ((if_pos c28).trans rfl)))
      · refine lv_aload_n hx hb dX1_mayBuildBy_31 rfl (lv_at hl 0 rfl) ?_
        refine va_get (D := D) (ci := 1) (v := .ref (a 1)) (C := RX1) (T := TX1) (N := 6) hx hb hts iw_X1 hown hK hP 0 rfl rfl 0 (by decide) (hts _ w_fl_X1_12) (fun _ h9 => h9) rfl dX1_mayBuildBy_32 ?_
        refine lv_aload_n hx hb dX1_mayBuildBy_35 rfl (lv_at hl 0 rfl) ?_
        refine va_get (D := D) (ci := 1) (v := .ref (a 2)) (C := RX1) (T := TX1) (N := 6) hx hb hts iw_X1 hown hK hP 0 rfl rfl 1 (by decide) (hts _ w_fl_X1_21) (fun _ h9 => h9) rfl dX1_mayBuildBy_36 ?_
        refine lv_iload_n hx hb dX1_mayBuildBy_39 rfl (lv_at hl 1 rfl) ?_
        refine ro_i (sX3_sheetOf O p1) (run_c (va_runV (As := [.int p1]) (rest := [.ref (a 1)]) ⟨hx, hb, hml, hown, hts⟩ (c_X3_sheetOf l D cs a O p1) (cwV 1 hts (good_V w_ml_X1_81 w_im_X3_sheetOf w_se_X3_sheetOf w_in_X3 w_co_X3_sheetOf) rfl rfl rfl ⟨rfl, hd_X3_sheetOf⟩ ⟨Nat.le_of_ble_eq_true rfl, Nat.le_of_ble_eq_true rfl⟩) (pe_W (C := RX3) (T := TX3) (N := 8) (ci := 3) (q0 := 2) hP hE rfl rfl) rfl rfl hl.1 rfl (lv_room (Nat.le_of_ble_eq_true rfl)) dX1_mayBuildBy_40 ⟨Nat.zero_le _, Nat.zero_le _⟩)) ?_
        refine ro_i (b2i (sX4_isToCheck O (sX3_sheetOf O p1))) (run_c (va_runV (As := [.int (sX3_sheetOf O p1)]) (rest := []) ⟨hx, hb, hml, hown, hts⟩ (c_X4_isToCheck l D cs a O (sX3_sheetOf O p1)) (cwV 1 hts (good_V w_ml_X1_84 w_im_X4_isToCheck w_se_X4_isToCheck w_in_X4 w_co_X4_isToCheck) rfl rfl rfl ⟨rfl, hd_X4_isToCheck⟩ ⟨Nat.le_of_ble_eq_true rfl, Nat.le_of_ble_eq_true rfl⟩) (pe_W (C := RX4) (T := TX4) (N := 5) (ci := 4) (q0 := 1) hP hE rfl rfl) rfl rfl hl.1 rfl (lv_room (Nat.le_of_ble_eq_true rfl)) dX1_mayBuildBy_43 ⟨Nat.zero_le _, Nat.zero_le _⟩)) ?_
        refine lv_if_ne (tgt := 53) hx hb dX1_mayBuildBy_46 (by decide) (fun c46 => ?_) (fun c46 => ?_)
        · have c46 := b2i_t c46
          refine lv_iconst (v := 0) hx hb dX1_mayBuildBy_53 (by decide) ?_
          exact hJ _ (congrArg b2i ((if_pos c8).trans ((if_neg c28).trans ((if_pos c46).trans rfl))))
        · have c46 := b2i_f c46
          refine lv_iconst (v := 1) hx hb dX1_mayBuildBy_49 (by decide) ?_
          refine lv_goto (tgt := 54) hx hb dX1_mayBuildBy_50 (by decide) ?_
          exact hJ _ (congrArg b2i ((if_pos c8).trans ((if_neg c28).trans ((if_neg c46).trans rfl))))
theorem hd_X1_isWrong : yX1_isWrong.cls ≠ "java/lang/invoke/MethodHandle" ∧ yX1_isWrong.cls ≠ "java/lang/invoke/VarHandle" ∧ (parseMethodDescriptor yX1_isWrong.desc).map (fun d => d.parameters.length) = some 1 := by decide +kernel
def sX1_isWrong (O : OF) (p1 : Int32) : Bool := (if (sX4_drawnOf O (sX6_sheetOf O p1) (sX6_fieldOf O p1)) ≤ (sX6_revisionOf O p1) then false else true)
set_option maxHeartbeats 4000000 in
set_option maxRecDepth 100000 in
theorem c_X1_isWrong (l : Launch) (D : va_G) (cs : Nat → ClassId) (a : Nat → Nat) (O : OF) (p1 : Int32) : Met l yX1_isWrong (wc yX1_isWrong cX1_isWrong 2 (some .boolean)) ({ frames := 2, cells := 0, slots := 0, locals := 43 } : Room) (va_Pc [.ref (a 0), .int p1] (PE D cs (ofW cs a O))) (vp_Si (fun r9 => r9 = b2i (sX1_isWrong O p1))) 0 0 (fun _ => False) := by
  obtain ⟨v, hv⟩ : ∃ v, sX1_isWrong O p1 = v := ⟨_, rfl⟩
  rw [hv]
  refine met_o (lv := [(0, .ref (a 0)), (1, .int p1)]) (by decide) (Nat.le_of_ble_eq_true rfl) rfl ?_
  intro p e s m args below meth c ls hx hb hr hml hts hown hlocks hin hP hE hl
  have hown : s.vm.findClass RX1 = some m.cls := hown
  have hK := hE.1
  have hP : va_P D vwC (ofW cs a O) s.heap := hP
  unfold sX1_isWrong at hv
  refine lv_aload_n hx hb dX1_isWrong_0 rfl (lv_at hl 0 rfl) ?_
  refine va_get (D := D) (ci := 1) (v := .ref (a 1)) (C := RX1) (T := TX1) (N := 6) hx hb hts iw_X1 hown hK hP 0 rfl rfl 0 (by decide) (hts _ w_fl_X1_12) (fun _ h9 => h9) rfl dX1_isWrong_1 ?_
  refine lv_aload_n hx hb dX1_isWrong_4 rfl (lv_at hl 0 rfl) ?_
  refine va_get (D := D) (ci := 1) (v := .ref (a 3)) (C := RX1) (T := TX1) (N := 6) hx hb hts iw_X1 hown hK hP 0 rfl rfl 2 (by decide) (hts _ w_fl_X1_28) (fun _ h9 => h9) rfl dX1_isWrong_5 ?_
  refine lv_iload_n hx hb dX1_isWrong_8 rfl (lv_at hl 1 rfl) ?_
  refine ro_i (sX6_sheetOf O p1) (run_c (va_runV (As := [.int p1]) (rest := [.ref (a 1)]) ⟨hx, hb, hml, hown, hts⟩ (c_X6_sheetOf l D cs a O p1) (cwV 1 hts (good_V w_ml_X1_87 w_im_X6_sheetOf w_se_X6_sheetOf w_in_X6 w_co_X6_sheetOf) rfl rfl rfl ⟨rfl, hd_X6_sheetOf⟩ ⟨Nat.le_of_ble_eq_true rfl, Nat.le_of_ble_eq_true rfl⟩) (pe_W (C := RX6) (T := TX6) (N := 5) (ci := 6) (q0 := 3) hP hE rfl rfl) rfl rfl hl.1 rfl (lv_room (Nat.le_of_ble_eq_true rfl)) dX1_isWrong_9 ⟨Nat.zero_le _, Nat.zero_le _⟩)) ?_
  refine lv_aload_n hx hb dX1_isWrong_12 rfl (lv_at hl 0 rfl) ?_
  refine va_get (D := D) (ci := 1) (v := .ref (a 3)) (C := RX1) (T := TX1) (N := 6) hx hb hts iw_X1 hown hK hP 0 rfl rfl 2 (by decide) (hts _ w_fl_X1_28) (fun _ h9 => h9) rfl dX1_isWrong_13 ?_
  refine lv_iload_n hx hb dX1_isWrong_16 rfl (lv_at hl 1 rfl) ?_
  refine ro_i (sX6_fieldOf O p1) (run_c (va_runV (As := [.int p1]) (rest := [.int (sX6_sheetOf O p1), .ref (a 1)]) ⟨hx, hb, hml, hown, hts⟩ (c_X6_fieldOf l D cs a O p1) (cwV 1 hts (good_V w_ml_X1_88 w_im_X6_fieldOf w_se_X6_fieldOf w_in_X6 w_co_X6_fieldOf) rfl rfl rfl ⟨rfl, hd_X6_fieldOf⟩ ⟨Nat.le_of_ble_eq_true rfl, Nat.le_of_ble_eq_true rfl⟩) (pe_W (C := RX6) (T := TX6) (N := 5) (ci := 6) (q0 := 3) hP hE rfl rfl) rfl rfl hl.1 rfl (lv_room (Nat.le_of_ble_eq_true rfl)) dX1_isWrong_17 ⟨Nat.zero_le _, Nat.zero_le _⟩)) ?_
  refine ro_i (sX4_drawnOf O (sX6_sheetOf O p1) (sX6_fieldOf O p1)) (run_c (va_runV (As := [.int (sX6_sheetOf O p1), .int (sX6_fieldOf O p1)]) (rest := []) ⟨hx, hb, hml, hown, hts⟩ (c_X4_drawnOf l D cs a O (sX6_sheetOf O p1) (sX6_fieldOf O p1)) (cwV 2 hts (good_V w_ml_X1_91 w_im_X4_drawnOf w_se_X4_drawnOf w_in_X4 w_co_X4_drawnOf) rfl rfl rfl ⟨rfl, hd_X4_drawnOf⟩ ⟨Nat.le_of_ble_eq_true rfl, Nat.le_of_ble_eq_true rfl⟩) (pe_W (C := RX4) (T := TX4) (N := 5) (ci := 4) (q0 := 1) hP hE rfl rfl) rfl rfl hl.1 rfl (lv_room (Nat.le_of_ble_eq_true rfl)) dX1_isWrong_20 ⟨Nat.zero_le _, Nat.zero_le _⟩)) ?_
  refine lv_aload_n hx hb dX1_isWrong_23 rfl (lv_at hl 0 rfl) ?_
  refine va_get (D := D) (ci := 1) (v := .ref (a 3)) (C := RX1) (T := TX1) (N := 6) hx hb hts iw_X1 hown hK hP 0 rfl rfl 2 (by decide) (hts _ w_fl_X1_28) (fun _ h9 => h9) rfl dX1_isWrong_24 ?_
  refine lv_iload_n hx hb dX1_isWrong_27 rfl (lv_at hl 1 rfl) ?_
  refine ro_i (sX6_revisionOf O p1) (run_c (va_runV (As := [.int p1]) (rest := [.int (sX4_drawnOf O (sX6_sheetOf O p1) (sX6_fieldOf O p1))]) ⟨hx, hb, hml, hown, hts⟩ (c_X6_revisionOf l D cs a O p1) (cwV 1 hts (good_V w_ml_X1_95 w_im_X6_revisionOf w_se_X6_revisionOf w_in_X6 w_co_X6_revisionOf) rfl rfl rfl ⟨rfl, hd_X6_revisionOf⟩ ⟨Nat.le_of_ble_eq_true rfl, Nat.le_of_ble_eq_true rfl⟩) (pe_W (C := RX6) (T := TX6) (N := 5) (ci := 6) (q0 := 3) hP hE rfl rfl) rfl rfl hl.1 rfl (lv_room (Nat.le_of_ble_eq_true rfl)) dX1_isWrong_28 ⟨Nat.zero_le _, Nat.zero_le _⟩)) ?_
  refine join_i (J := 39) (ls := ls) (rest := []) (b2i (if (sX4_drawnOf O (sX6_sheetOf O p1) (sX6_fieldOf O p1)) ≤ (sX6_revisionOf O p1) then false else true)) ?_ (fun hJ => ?_)
  · exact W.zret (ty := .boolean) (v := b2i (if (sX4_drawnOf O (sX6_sheetOf O p1) (sX6_fieldOf O p1)) ≤ (sX6_revisionOf O p1) then false else true)) hx hb hr (b2i_nar (if (sX4_drawnOf O (sX6_sheetOf O p1) (sX6_fieldOf O p1)) ≤ (sX6_revisionOf O p1) then false else true)) (fun t ht hW => ⟨b2i (if (sX4_drawnOf O (sX6_sheetOf O p1) (sX6_fieldOf O p1)) ≤ (sX6_revisionOf O p1) then false else true), rfl, congrArg b2i hv, ht⟩) (fun _ h => nomatch h) dX1_isWrong_39 (hlocks := hlocks)
  · refine lv_icmp_le (tgt := 38) hx hb dX1_isWrong_31 (by decide) (fun c31 => ?_) (fun c31 => ?_)
    · refine lv_iconst (v := 0) hx hb dX1_isWrong_38 (by decide) ?_
      exact hJ _ (congrArg b2i ((if_pos c31).trans rfl))
    · refine lv_iconst (v := 1) hx hb dX1_isWrong_34 (by decide) ?_
      refine lv_goto (tgt := 39) hx hb dX1_isWrong_35 (by decide) ?_
      exact hJ _ (congrArg b2i ((if_neg c31).trans rfl))
theorem hd_X1_wrongWorks : yX1_wrongWorks.cls ≠ "java/lang/invoke/MethodHandle" ∧ yX1_wrongWorks.cls ≠ "java/lang/invoke/VarHandle" ∧ (parseMethodDescriptor yX1_wrongWorks.desc).map (fun d => d.parameters.length) = some 2 := by decide +kernel
def LX1_wrongWorks_5 (O : OF) (p1 : Int32) (p2 : Int32) : Nat → Int32 → Int32 → Int32
  | 0 => fun _ _ => 0
  | n + 1 => fun x3 x4 => (if (sX6_size O) ≤ x4 then x3 else (if (if p1 = (-1) then (if p2 = (-1) then true else (if (sX6_sheetOf O x4) = p2 then true else false)) else (if (sX6_siteOf O x4) = p1 then (if p2 = (-1) then true else (if (sX6_sheetOf O x4) = p2 then true else false)) else false)) = true then (if (sX1_isWrong O x4) = true then (LX1_wrongWorks_5 O p1 p2 n (x3 + 1) (x4 + 1)) else (LX1_wrongWorks_5 O p1 p2 n x3 (x4 + 1))) else (LX1_wrongWorks_5 O p1 p2 n x3 (x4 + 1))))
theorem LX1_wrongWorks_5_eq (O : OF) (p1 : Int32) (p2 : Int32) (n : Nat) (x3 : Int32) (x4 : Int32) : LX1_wrongWorks_5 O p1 p2 (n + 1) x3 x4 = (if (sX6_size O) ≤ x4 then x3 else (if (if p1 = (-1) then (if p2 = (-1) then true else (if (sX6_sheetOf O x4) = p2 then true else false)) else (if (sX6_siteOf O x4) = p1 then (if p2 = (-1) then true else (if (sX6_sheetOf O x4) = p2 then true else false)) else false)) = true then (if (sX1_isWrong O x4) = true then (LX1_wrongWorks_5 O p1 p2 n (x3 + 1) (x4 + 1)) else (LX1_wrongWorks_5 O p1 p2 n x3 (x4 + 1))) else (LX1_wrongWorks_5 O p1 p2 n x3 (x4 + 1)))) := rfl
def sX1_wrongWorks (O : OF) (p1 : Int32) (p2 : Int32) : Int32 := (LX1_wrongWorks_5 O p1 p2 (upM (sX6_size O) 0 + 1) 0 0)
set_option maxHeartbeats 4000000 in
set_option maxRecDepth 100000 in
theorem c_X1_wrongWorks (l : Launch) (D : va_G) (cs : Nat → ClassId) (a : Nat → Nat) (O : OF) (p1 : Int32) (p2 : Int32) : Met l yX1_wrongWorks (wc yX1_wrongWorks cX1_wrongWorks 6 (some .int)) ({ frames := 3, cells := 0, slots := 0, locals := 64 } : Room) (va_Pc [.ref (a 0), .int p1, .int p2] (PE D cs (ofW cs a O))) (vp_Si (fun r9 => r9 = (sX1_wrongWorks O p1 p2))) 0 0 (fun _ => False) := by
  obtain ⟨v, hv⟩ : ∃ v, sX1_wrongWorks O p1 p2 = v := ⟨_, rfl⟩
  rw [hv]
  refine met_o (lv := [(0, .ref (a 0)), (1, .int p1), (2, .int p2)]) (by decide) (Nat.le_of_ble_eq_true rfl) rfl ?_
  intro p e s m args below meth c ls hx hb hr hml hts hown hlocks hin hP hE hl
  have hown : s.vm.findClass RX1 = some m.cls := hown
  have hK := hE.1
  have hP : va_P D vwC (ofW cs a O) s.heap := hP
  unfold sX1_wrongWorks at hv
  refine lv_iconst (v := 0) hx hb dX1_wrongWorks_0 (by decide) ?_
  refine lv_istore_n (lv' := [(3, .int 0), (0, .ref (a 0)), (1, .int p1), (2, .int p2)]) hx hb dX1_wrongWorks_1 rfl hl (by decide) rfl (fun ls hl => ?_)
  refine lv_iconst (v := 0) hx hb dX1_wrongWorks_2 (by decide) ?_
  refine lv_istore (lv' := [(4, .int 0), (3, .int 0), (0, .ref (a 0)), (1, .int p1), (2, .int p2)]) hx hb dX1_wrongWorks_3 hl (by decide) rfl (fun ls hl => ?_)
  have LOOP : ∀ (n : Nat) (x3 : Int32) (x4 : Int32), upM (sX6_size O) x4 < n → LX1_wrongWorks_5 O p1 p2 n x3 x4 = v → ∀ ls : Array Slot, lv_has ls 6 [(0, .ref (a 0)), (1, .int p1), (2, .int p2), (3, .int x3), (4, .int x4)] → W p l e ({ frames := 3, cells := 0, slots := 0, locals := 64 } : Room) s m args below meth c s.heap [] 0 0 (MQ below (vp_Si (fun r9 => r9 = v)) args s 0 0 (fun _ => False)) (F0 m 5 ls []) := by
    clear hv
    intro n
    induction n with
    | zero => intro x3 x4 hm; exact absurd hm (Nat.not_lt_zero _)
    | succ n ih =>
      intro x3 x4 hm hv ls hl
      have hv := (LX1_wrongWorks_5_eq O p1 p2 n x3 x4).symm.trans hv
      refine lv_iload hx hb dX1_wrongWorks_5 (lv_at hl 4 rfl) ?_
      refine lv_aload_n hx hb dX1_wrongWorks_7 rfl (lv_at hl 0 rfl) ?_
      refine va_get (D := D) (ci := 1) (v := .ref (a 3)) (C := RX1) (T := TX1) (N := 6) hx hb hts iw_X1 hown hK hP 0 rfl rfl 2 (by decide) (hts _ w_fl_X1_28) (fun _ h9 => h9) rfl dX1_wrongWorks_8 ?_
      refine ro_i (sX6_size O) (run_c (va_runV (As := []) (rest := [.int x4]) ⟨hx, hb, hml, hown, hts⟩ (c_X6_size l D cs a O) (cwV 0 hts (good_V w_ml_X1_98 w_im_X6_size w_se_X6_size w_in_X6 w_co_X6_size) rfl rfl rfl ⟨rfl, hd_X6_size⟩ ⟨Nat.le_of_ble_eq_true rfl, Nat.le_of_ble_eq_true rfl⟩) (pe_W (C := RX6) (T := TX6) (N := 5) (ci := 6) (q0 := 3) hP hE rfl rfl) rfl rfl hl.1 rfl (lv_room (Nat.le_of_ble_eq_true rfl)) dX1_wrongWorks_11 ⟨Nat.zero_le _, Nat.zero_le _⟩)) ?_
      refine lv_icmp_ge (tgt := 83) hx hb dX1_wrongWorks_14 (by decide) (fun c14 => ?_) (fun c14 => ?_)
      · have hv := (if_pos c14).symm.trans hv
        refine lv_iload_n hx hb dX1_wrongWorks_83 rfl (lv_at hl 3 rfl) ?_
        exact W.iret (v := x3) hx hb hr (fun t ht hW => ⟨x3, rfl, hv, ht⟩) (fun _ h => nomatch h) dX1_wrongWorks_84 (hlocks := hlocks)
      · have hv := (if_neg c14).symm.trans hv
        refine lv_iload_n hx hb dX1_wrongWorks_17 rfl (lv_at hl 1 rfl) ?_
        refine lv_iconst (v := (-1)) hx hb dX1_wrongWorks_18 (by decide) ?_
        refine join_i (J := 58) (ls := ls) (rest := []) (b2i (if p1 = (-1) then (if p2 = (-1) then true else (if (sX6_sheetOf O x4) = p2 then true else false)) else (if (sX6_siteOf O x4) = p1 then (if p2 = (-1) then true else (if (sX6_sheetOf O x4) = p2 then true else false)) else false))) ?_ (fun hJ => ?_)
        · refine lv_istore (lv' := [(5, .int (b2i (if p1 = (-1) then (if p2 = (-1) then true else (if (sX6_sheetOf O x4) = p2 then true else false)) else (if (sX6_siteOf O x4) = p1 then (if p2 = (-1) then true else (if (sX6_sheetOf O x4) = p2 then true else false)) else false)))), (0, .ref (a 0)), (1, .int p1), (2, .int p2), (3, .int x3), (4, .int x4)]) hx hb dX1_wrongWorks_58 hl (by decide) rfl (fun ls hl => ?_)
          refine lv_iload hx hb dX1_wrongWorks_60 (lv_at hl 0 rfl) ?_
          refine lv_if_eq (tgt := 77) hx hb dX1_wrongWorks_62 (by decide) (fun c62 => ?_) (fun c62 => ?_)
          · have c62 := b2i_f c62
            have hv := (if_neg c62).symm.trans hv
            refine lv_iinc (v := x4 + 1) (lv' := [(4, .int (x4 + 1)), (5, .int (b2i (if p1 = (-1) then (if p2 = (-1) then true else (if (sX6_sheetOf O x4) = p2 then true else false)) else (if (sX6_siteOf O x4) = p1 then (if p2 = (-1) then true else (if (sX6_sheetOf O x4) = p2 then true else false)) else false)))), (0, .ref (a 0)), (1, .int p1), (2, .int p2), (3, .int x3)]) hx hb dX1_wrongWorks_77 hl (k := 5) rfl rfl (by decide) rfl (fun ls hl => ?_)
            refine lv_goto (tgt := 5) hx hb dX1_wrongWorks_80 (by decide) ?_
            exact ih x3 (x4 + 1) (upM_s c14 hm) hv ls (lv_sub hl [2, 3, 4, 5, 0] rfl)
          · have c62 := b2i_t c62
            have hv := (if_pos c62).symm.trans hv
            refine lv_aload_n hx hb dX1_wrongWorks_65 rfl (lv_at hl 1 rfl) ?_
            refine lv_iload hx hb dX1_wrongWorks_66 (lv_at hl 5 rfl) ?_
            refine ro_i (b2i (sX1_isWrong O x4)) (run_c (va_runV (As := [.int x4]) (rest := []) ⟨hx, hb, hml, hown, hts⟩ (c_X1_isWrong l D cs a O x4) (cwV 1 hts (good_V w_ml_X1_105 w_im_X1_isWrong w_se_X1_isWrong w_in_X1 w_co_X1_isWrong) rfl rfl rfl ⟨rfl, hd_X1_isWrong⟩ ⟨Nat.le_of_ble_eq_true rfl, Nat.le_of_ble_eq_true rfl⟩) (pe_W (C := RX1) (T := TX1) (N := 6) (ci := 1) (q0 := 0) hP hE rfl rfl) rfl rfl hl.1 rfl (lv_room (Nat.le_of_ble_eq_true rfl)) dX1_wrongWorks_68 ⟨Nat.zero_le _, Nat.zero_le _⟩)) ?_
            refine lv_if_eq (tgt := 77) hx hb dX1_wrongWorks_71 (by decide) (fun c71 => ?_) (fun c71 => ?_)
            · have c71 := b2i_f c71
              have hv := (if_neg c71).symm.trans hv
              refine lv_iinc (v := x4 + 1) (lv' := [(4, .int (x4 + 1)), (5, .int (b2i (if p1 = (-1) then (if p2 = (-1) then true else (if (sX6_sheetOf O x4) = p2 then true else false)) else (if (sX6_siteOf O x4) = p1 then (if p2 = (-1) then true else (if (sX6_sheetOf O x4) = p2 then true else false)) else false)))), (0, .ref (a 0)), (1, .int p1), (2, .int p2), (3, .int x3)]) hx hb dX1_wrongWorks_77 hl (k := 5) rfl rfl (by decide) rfl (fun ls hl => ?_)
              refine lv_goto (tgt := 5) hx hb dX1_wrongWorks_80 (by decide) ?_
              exact ih x3 (x4 + 1) (upM_s c14 hm) hv ls (lv_sub hl [2, 3, 4, 5, 0] rfl)
            · have c71 := b2i_t c71
              have hv := (if_pos c71).symm.trans hv
              refine lv_iinc (v := x3 + 1) (lv' := [(3, .int (x3 + 1)), (5, .int (b2i (if p1 = (-1) then (if p2 = (-1) then true else (if (sX6_sheetOf O x4) = p2 then true else false)) else (if (sX6_siteOf O x4) = p1 then (if p2 = (-1) then true else (if (sX6_sheetOf O x4) = p2 then true else false)) else false)))), (0, .ref (a 0)), (1, .int p1), (2, .int p2), (4, .int x4)]) hx hb dX1_wrongWorks_74 hl (k := 4) rfl rfl (by decide) rfl (fun ls hl => ?_)
              refine lv_iinc (v := x4 + 1) (lv' := [(4, .int (x4 + 1)), (3, .int (x3 + 1)), (5, .int (b2i (if p1 = (-1) then (if p2 = (-1) then true else (if (sX6_sheetOf O x4) = p2 then true else false)) else (if (sX6_siteOf O x4) = p1 then (if p2 = (-1) then true else (if (sX6_sheetOf O x4) = p2 then true else false)) else false)))), (0, .ref (a 0)), (1, .int p1), (2, .int p2)]) hx hb dX1_wrongWorks_77 hl (k := 5) rfl rfl (by decide) rfl (fun ls hl => ?_)
              refine lv_goto (tgt := 5) hx hb dX1_wrongWorks_80 (by decide) ?_
              exact ih (x3 + 1) (x4 + 1) (upM_s c14 hm) hv ls (lv_sub hl [3, 4, 5, 1, 0] rfl)
        · refine lv_icmp_eq (tgt := 35) hx hb dX1_wrongWorks_19 (by decide) (fun c19 => ?_) (fun c19 => ?_)
          · refine lv_iload_n hx hb dX1_wrongWorks_35 rfl (lv_at hl 2 rfl) ?_
            refine lv_iconst (v := (-1)) hx hb dX1_wrongWorks_36 (by decide) ?_
            refine lv_icmp_eq (tgt := 53) hx hb dX1_wrongWorks_37 (by decide) (fun c37 => ?_) (fun c37 => ?_)
            · refine lv_iconst (v := 1) hx hb dX1_wrongWorks_53 (by decide) ?_
              refine lv_goto (tgt := 58) hx hb dX1_wrongWorks_54 (by decide) ?_
              exact hJ _ (congrArg b2i ((if_pos c19).trans ((if_pos c37).trans rfl)))
            · refine lv_aload_n hx hb dX1_wrongWorks_40 rfl (lv_at hl 0 rfl) ?_
              refine va_get (D := D) (ci := 1) (v := .ref (a 3)) (C := RX1) (T := TX1) (N := 6) hx hb hts iw_X1 hown hK hP 0 rfl rfl 2 (by decide) (hts _ w_fl_X1_28) (fun _ h9 => h9) rfl dX1_wrongWorks_41 ?_
              refine lv_iload hx hb dX1_wrongWorks_44 (lv_at hl 4 rfl) ?_
              refine ro_i (sX6_sheetOf O x4) (run_c (va_runV (As := [.int x4]) (rest := []) ⟨hx, hb, hml, hown, hts⟩ (c_X6_sheetOf l D cs a O x4) (cwV 1 hts (good_V w_ml_X1_87 w_im_X6_sheetOf w_se_X6_sheetOf w_in_X6 w_co_X6_sheetOf) rfl rfl rfl ⟨rfl, hd_X6_sheetOf⟩ ⟨Nat.le_of_ble_eq_true rfl, Nat.le_of_ble_eq_true rfl⟩) (pe_W (C := RX6) (T := TX6) (N := 5) (ci := 6) (q0 := 3) hP hE rfl rfl) rfl rfl hl.1 rfl (lv_room (Nat.le_of_ble_eq_true rfl)) dX1_wrongWorks_46 ⟨Nat.zero_le _, Nat.zero_le _⟩)) ?_
              refine lv_iload_n hx hb dX1_wrongWorks_49 rfl (lv_at hl 2 rfl) ?_
              refine lv_icmp_ne (tgt := 57) hx hb dX1_wrongWorks_50 (by decide) (fun c50 => ?_) (fun c50 => ?_)
              · refine lv_iconst (v := 0) hx hb dX1_wrongWorks_57 (by decide) ?_
                exact hJ _ (congrArg b2i ((if_pos c19).trans ((if_neg c37).trans ((if_neg c50).trans rfl))))
              · refine lv_iconst (v := 1) hx hb dX1_wrongWorks_53 (by decide) ?_
                refine lv_goto (tgt := 58) hx hb dX1_wrongWorks_54 (by decide) ?_
                exact hJ _ (congrArg b2i ((if_pos c19).trans ((if_neg c37).trans ((if_pos c50).trans rfl))))
          · refine lv_aload_n hx hb dX1_wrongWorks_22 rfl (lv_at hl 0 rfl) ?_
            refine va_get (D := D) (ci := 1) (v := .ref (a 3)) (C := RX1) (T := TX1) (N := 6) hx hb hts iw_X1 hown hK hP 0 rfl rfl 2 (by decide) (hts _ w_fl_X1_28) (fun _ h9 => h9) rfl dX1_wrongWorks_23 ?_
            refine lv_iload hx hb dX1_wrongWorks_26 (lv_at hl 4 rfl) ?_
            refine ro_i (sX6_siteOf O x4) (run_c (va_runV (As := [.int x4]) (rest := []) ⟨hx, hb, hml, hown, hts⟩ (c_X6_siteOf l D cs a O x4) (cwV 1 hts (good_V w_ml_X1_102 w_im_X6_siteOf w_se_X6_siteOf w_in_X6 w_co_X6_siteOf) rfl rfl rfl ⟨rfl, hd_X6_siteOf⟩ ⟨Nat.le_of_ble_eq_true rfl, Nat.le_of_ble_eq_true rfl⟩) (pe_W (C := RX6) (T := TX6) (N := 5) (ci := 6) (q0 := 3) hP hE rfl rfl) rfl rfl hl.1 rfl (lv_room (Nat.le_of_ble_eq_true rfl)) dX1_wrongWorks_28 ⟨Nat.zero_le _, Nat.zero_le _⟩)) ?_
            refine lv_iload_n hx hb dX1_wrongWorks_31 rfl (lv_at hl 1 rfl) ?_
            refine lv_icmp_ne (tgt := 57) hx hb dX1_wrongWorks_32 (by decide) (fun c32 => ?_) (fun c32 => ?_)
            · refine lv_iconst (v := 0) hx hb dX1_wrongWorks_57 (by decide) ?_
              exact hJ _ (congrArg b2i ((if_neg c19).trans ((if_neg c32).trans rfl)))
            · refine lv_iload_n hx hb dX1_wrongWorks_35 rfl (lv_at hl 2 rfl) ?_
              refine lv_iconst (v := (-1)) hx hb dX1_wrongWorks_36 (by decide) ?_
              refine lv_icmp_eq (tgt := 53) hx hb dX1_wrongWorks_37 (by decide) (fun c37 => ?_) (fun c37 => ?_)
              · refine lv_iconst (v := 1) hx hb dX1_wrongWorks_53 (by decide) ?_
                refine lv_goto (tgt := 58) hx hb dX1_wrongWorks_54 (by decide) ?_
                exact hJ _ (congrArg b2i ((if_neg c19).trans ((if_pos c32).trans ((if_pos c37).trans rfl))))
              · refine lv_aload_n hx hb dX1_wrongWorks_40 rfl (lv_at hl 0 rfl) ?_
                refine va_get (D := D) (ci := 1) (v := .ref (a 3)) (C := RX1) (T := TX1) (N := 6) hx hb hts iw_X1 hown hK hP 0 rfl rfl 2 (by decide) (hts _ w_fl_X1_28) (fun _ h9 => h9) rfl dX1_wrongWorks_41 ?_
                refine lv_iload hx hb dX1_wrongWorks_44 (lv_at hl 4 rfl) ?_
                refine ro_i (sX6_sheetOf O x4) (run_c (va_runV (As := [.int x4]) (rest := []) ⟨hx, hb, hml, hown, hts⟩ (c_X6_sheetOf l D cs a O x4) (cwV 1 hts (good_V w_ml_X1_87 w_im_X6_sheetOf w_se_X6_sheetOf w_in_X6 w_co_X6_sheetOf) rfl rfl rfl ⟨rfl, hd_X6_sheetOf⟩ ⟨Nat.le_of_ble_eq_true rfl, Nat.le_of_ble_eq_true rfl⟩) (pe_W (C := RX6) (T := TX6) (N := 5) (ci := 6) (q0 := 3) hP hE rfl rfl) rfl rfl hl.1 rfl (lv_room (Nat.le_of_ble_eq_true rfl)) dX1_wrongWorks_46 ⟨Nat.zero_le _, Nat.zero_le _⟩)) ?_
                refine lv_iload_n hx hb dX1_wrongWorks_49 rfl (lv_at hl 2 rfl) ?_
                refine lv_icmp_ne (tgt := 57) hx hb dX1_wrongWorks_50 (by decide) (fun c50 => ?_) (fun c50 => ?_)
                · refine lv_iconst (v := 0) hx hb dX1_wrongWorks_57 (by decide) ?_
                  exact hJ _ (congrArg b2i ((if_neg c19).trans ((if_pos c32).trans ((if_neg c37).trans ((if_neg c50).trans rfl)))))
                · refine lv_iconst (v := 1) hx hb dX1_wrongWorks_53 (by decide) ?_
                  refine lv_goto (tgt := 58) hx hb dX1_wrongWorks_54 (by decide) ?_
                  exact hJ _ (congrArg b2i ((if_neg c19).trans ((if_pos c32).trans ((if_neg c37).trans ((if_pos c50).trans rfl)))))
  exact LOOP _ 0 0 (Nat.lt_succ_self _) hv ls (lv_sub hl [2, 3, 4, 1, 0] rfl)
theorem hd_X1_totalNumber : yX1_totalNumber.cls ≠ "java/lang/invoke/MethodHandle" ∧ yX1_totalNumber.cls ≠ "java/lang/invoke/VarHandle" ∧ (parseMethodDescriptor yX1_totalNumber.desc).map (fun d => d.parameters.length) = some 1 := by decide +kernel
def sX1_totalNumber (O : OF) (p1 : Int32) : Int32 := (if p1 = 0 then sX4_size O else (if p1 = 1 then sX3_size O else (if p1 = 2 then sX3_outCount O else (if p1 = 3 then sX3_recalledCount O else (if p1 = 4 then sX3_overdueCount O (-1) (O.1 5) else (if p1 = 5 then sX6_size O else (if p1 = 6 then sX1_wrongWorks O (-1) (-1) else (if p1 = 7 then sX4_toCheckCount O else (if p1 = 8 then (O.1 5) else (O.1 6))))))))))
set_option maxHeartbeats 4000000 in
set_option maxRecDepth 100000 in
theorem c_X1_totalNumber (l : Launch) (D : va_G) (cs : Nat → ClassId) (a : Nat → Nat) (O : OF) (p1 : Int32) : Met l yX1_totalNumber (wc yX1_totalNumber cX1_totalNumber 2 (some .int)) ({ frames := 5, cells := 0, slots := 0, locals := 109 } : Room) (va_Pc [.ref (a 0), .int p1] (PE D cs (ofW cs a O))) (vp_Si (fun r9 => r9 = (sX1_totalNumber O p1))) 0 0 (fun _ => False) := by
  obtain ⟨v, hv⟩ : ∃ v, sX1_totalNumber O p1 = v := ⟨_, rfl⟩
  rw [hv]
  refine met_o (lv := [(0, .ref (a 0)), (1, .int p1)]) (by decide) (Nat.le_of_ble_eq_true rfl) rfl ?_
  intro p e s m args below meth c ls hx hb hr hml hts hown hlocks hin hP hE hl
  have hown : s.vm.findClass RX1 = some m.cls := hown
  have hK := hE.1
  have hP : va_P D vwC (ofW cs a O) s.heap := hP
  unfold sX1_totalNumber at hv
  refine lv_iload_n hx hb dX1_totalNumber_0 rfl (lv_at hl 1 rfl) ?_
  by_cases c1_0 : p1 = 0
  · have hv := (if_pos c1_0).symm.trans hv
    refine lv_tableIn (off := 51) (tgt := 52) hx hb dX1_totalNumber_1 (by rw [c1_0]; decide) (by rw [c1_0]; decide) (by rw [c1_0]; rfl) (by decide) ?_
    refine lv_aload_n hx hb dX1_totalNumber_52 rfl (lv_at hl 0 rfl) ?_
    refine va_get (D := D) (ci := 1) (v := .ref (a 1)) (C := RX1) (T := TX1) (N := 6) hx hb hts iw_X1 hown hK hP 0 rfl rfl 0 (by decide) (hts _ w_fl_X1_12) (fun _ h9 => h9) rfl dX1_totalNumber_53 ?_
    refine ro_i (sX4_size O) (run_c (va_runV (As := []) (rest := []) ⟨hx, hb, hml, hown, hts⟩ (c_X4_size l D cs a O) (cwV 0 hts (good_V w_ml_X1_108 w_im_X4_size w_se_X4_size w_in_X4 w_co_X4_size) rfl rfl rfl ⟨rfl, hd_X4_size⟩ ⟨Nat.le_of_ble_eq_true rfl, Nat.le_of_ble_eq_true rfl⟩) (pe_W (C := RX4) (T := TX4) (N := 5) (ci := 4) (q0 := 1) hP hE rfl rfl) rfl rfl hl.1 rfl (lv_room (Nat.le_of_ble_eq_true rfl)) dX1_totalNumber_56 ⟨Nat.zero_le _, Nat.zero_le _⟩)) ?_
    exact W.iret (v := sX4_size O) hx hb hr (fun t ht hW => ⟨sX4_size O, rfl, hv, ht⟩) (fun _ h => nomatch h) dX1_totalNumber_59 (hlocks := hlocks)
  · have hv := (if_neg c1_0).symm.trans hv
    by_cases c1_1 : p1 = 1
    · have hv := (if_pos c1_1).symm.trans hv
      refine lv_tableIn (off := 59) (tgt := 60) hx hb dX1_totalNumber_1 (by rw [c1_1]; decide) (by rw [c1_1]; decide) (by rw [c1_1]; rfl) (by decide) ?_
      refine lv_aload_n hx hb dX1_totalNumber_60 rfl (lv_at hl 0 rfl) ?_
      refine va_get (D := D) (ci := 1) (v := .ref (a 2)) (C := RX1) (T := TX1) (N := 6) hx hb hts iw_X1 hown hK hP 0 rfl rfl 1 (by decide) (hts _ w_fl_X1_21) (fun _ h9 => h9) rfl dX1_totalNumber_61 ?_
      refine ro_i (sX3_size O) (run_c (va_runV (As := []) (rest := []) ⟨hx, hb, hml, hown, hts⟩ (c_X3_size l D cs a O) (cwV 0 hts (good_V w_ml_X1_109 w_im_X3_size w_se_X3_size w_in_X3 w_co_X3_size) rfl rfl rfl ⟨rfl, hd_X3_size⟩ ⟨Nat.le_of_ble_eq_true rfl, Nat.le_of_ble_eq_true rfl⟩) (pe_W (C := RX3) (T := TX3) (N := 8) (ci := 3) (q0 := 2) hP hE rfl rfl) rfl rfl hl.1 rfl (lv_room (Nat.le_of_ble_eq_true rfl)) dX1_totalNumber_64 ⟨Nat.zero_le _, Nat.zero_le _⟩)) ?_
      exact W.iret (v := sX3_size O) hx hb hr (fun t ht hW => ⟨sX3_size O, rfl, hv, ht⟩) (fun _ h => nomatch h) dX1_totalNumber_67 (hlocks := hlocks)
    · have hv := (if_neg c1_1).symm.trans hv
      by_cases c1_2 : p1 = 2
      · have hv := (if_pos c1_2).symm.trans hv
        refine lv_tableIn (off := 67) (tgt := 68) hx hb dX1_totalNumber_1 (by rw [c1_2]; decide) (by rw [c1_2]; decide) (by rw [c1_2]; rfl) (by decide) ?_
        refine lv_aload_n hx hb dX1_totalNumber_68 rfl (lv_at hl 0 rfl) ?_
        refine va_get (D := D) (ci := 1) (v := .ref (a 2)) (C := RX1) (T := TX1) (N := 6) hx hb hts iw_X1 hown hK hP 0 rfl rfl 1 (by decide) (hts _ w_fl_X1_21) (fun _ h9 => h9) rfl dX1_totalNumber_69 ?_
        refine ro_i (sX3_outCount O) (run_c (va_runV (As := []) (rest := []) ⟨hx, hb, hml, hown, hts⟩ (c_X3_outCount l D cs a O) (cwV 0 hts (good_V w_ml_X1_110 w_im_X3_outCount w_se_X3_outCount w_in_X3 w_co_X3_outCount) rfl rfl rfl ⟨rfl, hd_X3_outCount⟩ ⟨Nat.le_of_ble_eq_true rfl, Nat.le_of_ble_eq_true rfl⟩) (pe_W (C := RX3) (T := TX3) (N := 8) (ci := 3) (q0 := 2) hP hE rfl rfl) rfl rfl hl.1 rfl (lv_room (Nat.le_of_ble_eq_true rfl)) dX1_totalNumber_72 ⟨Nat.zero_le _, Nat.zero_le _⟩)) ?_
        exact W.iret (v := sX3_outCount O) hx hb hr (fun t ht hW => ⟨sX3_outCount O, rfl, hv, ht⟩) (fun _ h => nomatch h) dX1_totalNumber_75 (hlocks := hlocks)
      · have hv := (if_neg c1_2).symm.trans hv
        by_cases c1_3 : p1 = 3
        · have hv := (if_pos c1_3).symm.trans hv
          refine lv_tableIn (off := 75) (tgt := 76) hx hb dX1_totalNumber_1 (by rw [c1_3]; decide) (by rw [c1_3]; decide) (by rw [c1_3]; rfl) (by decide) ?_
          refine lv_aload_n hx hb dX1_totalNumber_76 rfl (lv_at hl 0 rfl) ?_
          refine va_get (D := D) (ci := 1) (v := .ref (a 2)) (C := RX1) (T := TX1) (N := 6) hx hb hts iw_X1 hown hK hP 0 rfl rfl 1 (by decide) (hts _ w_fl_X1_21) (fun _ h9 => h9) rfl dX1_totalNumber_77 ?_
          refine ro_i (sX3_recalledCount O) (run_c (va_runV (As := []) (rest := []) ⟨hx, hb, hml, hown, hts⟩ (c_X3_recalledCount l D cs a O) (cwV 0 hts (good_V w_ml_X1_113 w_im_X3_recalledCount w_se_X3_recalledCount w_in_X3 w_co_X3_recalledCount) rfl rfl rfl ⟨rfl, hd_X3_recalledCount⟩ ⟨Nat.le_of_ble_eq_true rfl, Nat.le_of_ble_eq_true rfl⟩) (pe_W (C := RX3) (T := TX3) (N := 8) (ci := 3) (q0 := 2) hP hE rfl rfl) rfl rfl hl.1 rfl (lv_room (Nat.le_of_ble_eq_true rfl)) dX1_totalNumber_80 ⟨Nat.zero_le _, Nat.zero_le _⟩)) ?_
          exact W.iret (v := sX3_recalledCount O) hx hb hr (fun t ht hW => ⟨sX3_recalledCount O, rfl, hv, ht⟩) (fun _ h => nomatch h) dX1_totalNumber_83 (hlocks := hlocks)
        · have hv := (if_neg c1_3).symm.trans hv
          by_cases c1_4 : p1 = 4
          · have hv := (if_pos c1_4).symm.trans hv
            refine lv_tableIn (off := 83) (tgt := 84) hx hb dX1_totalNumber_1 (by rw [c1_4]; decide) (by rw [c1_4]; decide) (by rw [c1_4]; rfl) (by decide) ?_
            refine lv_aload_n hx hb dX1_totalNumber_84 rfl (lv_at hl 0 rfl) ?_
            refine va_get (D := D) (ci := 1) (v := .ref (a 2)) (C := RX1) (T := TX1) (N := 6) hx hb hts iw_X1 hown hK hP 0 rfl rfl 1 (by decide) (hts _ w_fl_X1_21) (fun _ h9 => h9) rfl dX1_totalNumber_85 ?_
            refine lv_iconst (v := (-1)) hx hb dX1_totalNumber_88 (by decide) ?_
            refine lv_aload_n hx hb dX1_totalNumber_89 rfl (lv_at hl 0 rfl) ?_
            refine va_get (D := D) (ci := 1) (v := .int (O.1 5)) (C := RX1) (T := TX1) (N := 6) hx hb hts iw_X1 hown hK hP 0 rfl rfl 4 (by decide) (hts _ w_fl_X1_42) (fun _ h9 => h9) rfl dX1_totalNumber_90 ?_
            refine ro_i (sX3_overdueCount O (-1) (O.1 5)) (run_c (va_runV (As := [.int (-1), .int (O.1 5)]) (rest := []) ⟨hx, hb, hml, hown, hts⟩ (c_X3_overdueCount l D cs a O (-1) (O.1 5)) (cwV 2 hts (good_V w_ml_X1_116 w_im_X3_overdueCount w_se_X3_overdueCount w_in_X3 w_co_X3_overdueCount) rfl rfl rfl ⟨rfl, hd_X3_overdueCount⟩ ⟨Nat.le_of_ble_eq_true rfl, Nat.le_of_ble_eq_true rfl⟩) (pe_W (C := RX3) (T := TX3) (N := 8) (ci := 3) (q0 := 2) hP hE rfl rfl) rfl rfl hl.1 rfl (lv_room (Nat.le_of_ble_eq_true rfl)) dX1_totalNumber_93 ⟨Nat.zero_le _, Nat.zero_le _⟩)) ?_
            exact W.iret (v := sX3_overdueCount O (-1) (O.1 5)) hx hb hr (fun t ht hW => ⟨sX3_overdueCount O (-1) (O.1 5), rfl, hv, ht⟩) (fun _ h => nomatch h) dX1_totalNumber_96 (hlocks := hlocks)
          · have hv := (if_neg c1_4).symm.trans hv
            by_cases c1_5 : p1 = 5
            · have hv := (if_pos c1_5).symm.trans hv
              refine lv_tableIn (off := 96) (tgt := 97) hx hb dX1_totalNumber_1 (by rw [c1_5]; decide) (by rw [c1_5]; decide) (by rw [c1_5]; rfl) (by decide) ?_
              refine lv_aload_n hx hb dX1_totalNumber_97 rfl (lv_at hl 0 rfl) ?_
              refine va_get (D := D) (ci := 1) (v := .ref (a 3)) (C := RX1) (T := TX1) (N := 6) hx hb hts iw_X1 hown hK hP 0 rfl rfl 2 (by decide) (hts _ w_fl_X1_28) (fun _ h9 => h9) rfl dX1_totalNumber_98 ?_
              refine ro_i (sX6_size O) (run_c (va_runV (As := []) (rest := []) ⟨hx, hb, hml, hown, hts⟩ (c_X6_size l D cs a O) (cwV 0 hts (good_V w_ml_X1_98 w_im_X6_size w_se_X6_size w_in_X6 w_co_X6_size) rfl rfl rfl ⟨rfl, hd_X6_size⟩ ⟨Nat.le_of_ble_eq_true rfl, Nat.le_of_ble_eq_true rfl⟩) (pe_W (C := RX6) (T := TX6) (N := 5) (ci := 6) (q0 := 3) hP hE rfl rfl) rfl rfl hl.1 rfl (lv_room (Nat.le_of_ble_eq_true rfl)) dX1_totalNumber_101 ⟨Nat.zero_le _, Nat.zero_le _⟩)) ?_
              exact W.iret (v := sX6_size O) hx hb hr (fun t ht hW => ⟨sX6_size O, rfl, hv, ht⟩) (fun _ h => nomatch h) dX1_totalNumber_104 (hlocks := hlocks)
            · have hv := (if_neg c1_5).symm.trans hv
              by_cases c1_6 : p1 = 6
              · have hv := (if_pos c1_6).symm.trans hv
                refine lv_tableIn (off := 104) (tgt := 105) hx hb dX1_totalNumber_1 (by rw [c1_6]; decide) (by rw [c1_6]; decide) (by rw [c1_6]; rfl) (by decide) ?_
                refine lv_aload_n hx hb dX1_totalNumber_105 rfl (lv_at hl 0 rfl) ?_
                refine lv_iconst (v := (-1)) hx hb dX1_totalNumber_106 (by decide) ?_
                refine lv_iconst (v := (-1)) hx hb dX1_totalNumber_107 (by decide) ?_
                refine ro_i (sX1_wrongWorks O (-1) (-1)) (run_c (va_runV (As := [.int (-1), .int (-1)]) (rest := []) ⟨hx, hb, hml, hown, hts⟩ (c_X1_wrongWorks l D cs a O (-1) (-1)) (cwV 2 hts (good_V w_ml_X1_119 w_im_X1_wrongWorks w_se_X1_wrongWorks w_in_X1 w_co_X1_wrongWorks) rfl rfl rfl ⟨rfl, hd_X1_wrongWorks⟩ ⟨Nat.le_of_ble_eq_true rfl, Nat.le_of_ble_eq_true rfl⟩) (pe_W (C := RX1) (T := TX1) (N := 6) (ci := 1) (q0 := 0) hP hE rfl rfl) rfl rfl hl.1 rfl (lv_room (Nat.le_of_ble_eq_true rfl)) dX1_totalNumber_108 ⟨Nat.zero_le _, Nat.zero_le _⟩)) ?_
                exact W.iret (v := sX1_wrongWorks O (-1) (-1)) hx hb hr (fun t ht hW => ⟨sX1_wrongWorks O (-1) (-1), rfl, hv, ht⟩) (fun _ h => nomatch h) dX1_totalNumber_111 (hlocks := hlocks)
              · have hv := (if_neg c1_6).symm.trans hv
                by_cases c1_7 : p1 = 7
                · have hv := (if_pos c1_7).symm.trans hv
                  refine lv_tableIn (off := 111) (tgt := 112) hx hb dX1_totalNumber_1 (by rw [c1_7]; decide) (by rw [c1_7]; decide) (by rw [c1_7]; rfl) (by decide) ?_
                  refine lv_aload_n hx hb dX1_totalNumber_112 rfl (lv_at hl 0 rfl) ?_
                  refine va_get (D := D) (ci := 1) (v := .ref (a 1)) (C := RX1) (T := TX1) (N := 6) hx hb hts iw_X1 hown hK hP 0 rfl rfl 0 (by decide) (hts _ w_fl_X1_12) (fun _ h9 => h9) rfl dX1_totalNumber_113 ?_
                  refine ro_i (sX4_toCheckCount O) (run_c (va_runV (As := []) (rest := []) ⟨hx, hb, hml, hown, hts⟩ (c_X4_toCheckCount l D cs a O) (cwV 0 hts (good_V w_ml_X1_122 w_im_X4_toCheckCount w_se_X4_toCheckCount w_in_X4 w_co_X4_toCheckCount) rfl rfl rfl ⟨rfl, hd_X4_toCheckCount⟩ ⟨Nat.le_of_ble_eq_true rfl, Nat.le_of_ble_eq_true rfl⟩) (pe_W (C := RX4) (T := TX4) (N := 5) (ci := 4) (q0 := 1) hP hE rfl rfl) rfl rfl hl.1 rfl (lv_room (Nat.le_of_ble_eq_true rfl)) dX1_totalNumber_116 ⟨Nat.zero_le _, Nat.zero_le _⟩)) ?_
                  exact W.iret (v := sX4_toCheckCount O) hx hb hr (fun t ht hW => ⟨sX4_toCheckCount O, rfl, hv, ht⟩) (fun _ h => nomatch h) dX1_totalNumber_119 (hlocks := hlocks)
                · have hv := (if_neg c1_7).symm.trans hv
                  by_cases c1_8 : p1 = 8
                  · have hv := (if_pos c1_8).symm.trans hv
                    refine lv_tableIn (off := 119) (tgt := 120) hx hb dX1_totalNumber_1 (by rw [c1_8]; decide) (by rw [c1_8]; decide) (by rw [c1_8]; rfl) (by decide) ?_
                    refine lv_aload_n hx hb dX1_totalNumber_120 rfl (lv_at hl 0 rfl) ?_
                    refine va_get (D := D) (ci := 1) (v := .int (O.1 5)) (C := RX1) (T := TX1) (N := 6) hx hb hts iw_X1 hown hK hP 0 rfl rfl 4 (by decide) (hts _ w_fl_X1_42) (fun _ h9 => h9) rfl dX1_totalNumber_121 ?_
                    exact W.iret (v := (O.1 5)) hx hb hr (fun t ht hW => ⟨(O.1 5), rfl, hv, ht⟩) (fun _ h => nomatch h) dX1_totalNumber_124 (hlocks := hlocks)
                  · have hv := (if_neg c1_8).symm.trans hv
                    have e0 : p1.toInt ≠ 0 := sw_ne c1_0
                    have e1 : p1.toInt ≠ 1 := sw_ne c1_1
                    have e2 : p1.toInt ≠ 2 := sw_ne c1_2
                    have e3 : p1.toInt ≠ 3 := sw_ne c1_3
                    have e4 : p1.toInt ≠ 4 := sw_ne c1_4
                    have e5 : p1.toInt ≠ 5 := sw_ne c1_5
                    have e6 : p1.toInt ≠ 6 := sw_ne c1_6
                    have e7 : p1.toInt ≠ 7 := sw_ne c1_7
                    have e8 : p1.toInt ≠ 8 := sw_ne c1_8
                    refine lv_tableOut (tgt := 125) hx hb dX1_totalNumber_1 (by omega) (by decide) ?_
                    refine lv_aload_n hx hb dX1_totalNumber_125 rfl (lv_at hl 0 rfl) ?_
                    refine va_get (D := D) (ci := 1) (v := .int (O.1 6)) (C := RX1) (T := TX1) (N := 6) hx hb hts iw_X1 hown hK hP 0 rfl rfl 5 (by decide) (hts _ w_fl_X1_46) (fun _ h9 => h9) rfl dX1_totalNumber_126 ?_
                    exact W.iret (v := (O.1 6)) hx hb hr (fun t ht hW => ⟨(O.1 6), rfl, hv, ht⟩) (fun _ h => nomatch h) dX1_totalNumber_129 (hlocks := hlocks)
theorem hd_X1_sheetNumber : yX1_sheetNumber.cls ≠ "java/lang/invoke/MethodHandle" ∧ yX1_sheetNumber.cls ≠ "java/lang/invoke/VarHandle" ∧ (parseMethodDescriptor yX1_sheetNumber.desc).map (fun d => d.parameters.length) = some 2 := by decide +kernel
def sX1_sheetNumber (O : OF) (p1 : Int32) (p2 : Int32) : Int32 := (if p2 = 0 then sX4_parentOf O p1 else (if p2 = 1 then sX4_revisionOf O p1 else (if p2 = 2 then b2i (if (sX4_isToCheck O p1) = true then true else false) else (if p2 = 3 then sX4_countUnder O p1 else (if p2 = 4 then sJ6_bitCount_0f7a4 (sX4_above O p1) else (if p2 = 5 then sX3_outCountOf O p1 else (if p2 = 6 then sX4_heightOf O p1 else sX1_wrongWorks O (-1) p1)))))))
set_option maxHeartbeats 4000000 in
set_option maxRecDepth 100000 in
theorem c_X1_sheetNumber (l : Launch) (D : va_G) (cs : Nat → ClassId) (a : Nat → Nat) (O : OF) (p1 : Int32) (p2 : Int32) : Met l yX1_sheetNumber (wc yX1_sheetNumber cX1_sheetNumber 3 (some .int)) ({ frames := 4, cells := 0, slots := 0, locals := 91 } : Room) (va_Pc [.ref (a 0), .int p1, .int p2] (PE D cs (ofW cs a O))) (vp_Si (fun r9 => r9 = (sX1_sheetNumber O p1 p2))) 0 0 (fun _ => False) := by
  obtain ⟨v, hv⟩ : ∃ v, sX1_sheetNumber O p1 p2 = v := ⟨_, rfl⟩
  rw [hv]
  refine met_o (lv := [(0, .ref (a 0)), (1, .int p1), (2, .int p2)]) (by decide) (Nat.le_of_ble_eq_true rfl) rfl ?_
  intro p e s m args below meth c ls hx hb hr hml hts hown hlocks hin hP hE hl
  have hown : s.vm.findClass RX1 = some m.cls := hown
  have hK := hE.1
  have hP : va_P D vwC (ofW cs a O) s.heap := hP
  unfold sX1_sheetNumber at hv
  refine lv_iload_n hx hb dX1_sheetNumber_0 rfl (lv_at hl 2 rfl) ?_
  by_cases c1_0 : p2 = 0
  · have hv := (if_pos c1_0).symm.trans hv
    refine lv_tableIn (off := 43) (tgt := 44) hx hb dX1_sheetNumber_1 (by rw [c1_0]; decide) (by rw [c1_0]; decide) (by rw [c1_0]; rfl) (by decide) ?_
    refine lv_aload_n hx hb dX1_sheetNumber_44 rfl (lv_at hl 0 rfl) ?_
    refine va_get (D := D) (ci := 1) (v := .ref (a 1)) (C := RX1) (T := TX1) (N := 6) hx hb hts iw_X1 hown hK hP 0 rfl rfl 0 (by decide) (hts _ w_fl_X1_12) (fun _ h9 => h9) rfl dX1_sheetNumber_45 ?_
    refine lv_iload_n hx hb dX1_sheetNumber_48 rfl (lv_at hl 1 rfl) ?_
    refine ro_i (sX4_parentOf O p1) (run_c (va_runV (As := [.int p1]) (rest := []) ⟨hx, hb, hml, hown, hts⟩ (c_X4_parentOf l D cs a O p1) (cwV 1 hts (good_V w_ml_X1_125 w_im_X4_parentOf w_se_X4_parentOf w_in_X4 w_co_X4_parentOf) rfl rfl rfl ⟨rfl, hd_X4_parentOf⟩ ⟨Nat.le_of_ble_eq_true rfl, Nat.le_of_ble_eq_true rfl⟩) (pe_W (C := RX4) (T := TX4) (N := 5) (ci := 4) (q0 := 1) hP hE rfl rfl) rfl rfl hl.1 rfl (lv_room (Nat.le_of_ble_eq_true rfl)) dX1_sheetNumber_49 ⟨Nat.zero_le _, Nat.zero_le _⟩)) ?_
    exact W.iret (v := sX4_parentOf O p1) hx hb hr (fun t ht hW => ⟨sX4_parentOf O p1, rfl, hv, ht⟩) (fun _ h => nomatch h) dX1_sheetNumber_52 (hlocks := hlocks)
  · have hv := (if_neg c1_0).symm.trans hv
    by_cases c1_1 : p2 = 1
    · have hv := (if_pos c1_1).symm.trans hv
      refine lv_tableIn (off := 52) (tgt := 53) hx hb dX1_sheetNumber_1 (by rw [c1_1]; decide) (by rw [c1_1]; decide) (by rw [c1_1]; rfl) (by decide) ?_
      refine lv_aload_n hx hb dX1_sheetNumber_53 rfl (lv_at hl 0 rfl) ?_
      refine va_get (D := D) (ci := 1) (v := .ref (a 1)) (C := RX1) (T := TX1) (N := 6) hx hb hts iw_X1 hown hK hP 0 rfl rfl 0 (by decide) (hts _ w_fl_X1_12) (fun _ h9 => h9) rfl dX1_sheetNumber_54 ?_
      refine lv_iload_n hx hb dX1_sheetNumber_57 rfl (lv_at hl 1 rfl) ?_
      refine ro_i (sX4_revisionOf O p1) (run_c (va_runV (As := [.int p1]) (rest := []) ⟨hx, hb, hml, hown, hts⟩ (c_X4_revisionOf l D cs a O p1) (cwV 1 hts (good_V w_ml_X1_128 w_im_X4_revisionOf w_se_X4_revisionOf w_in_X4 w_co_X4_revisionOf) rfl rfl rfl ⟨rfl, hd_X4_revisionOf⟩ ⟨Nat.le_of_ble_eq_true rfl, Nat.le_of_ble_eq_true rfl⟩) (pe_W (C := RX4) (T := TX4) (N := 5) (ci := 4) (q0 := 1) hP hE rfl rfl) rfl rfl hl.1 rfl (lv_room (Nat.le_of_ble_eq_true rfl)) dX1_sheetNumber_58 ⟨Nat.zero_le _, Nat.zero_le _⟩)) ?_
      exact W.iret (v := sX4_revisionOf O p1) hx hb hr (fun t ht hW => ⟨sX4_revisionOf O p1, rfl, hv, ht⟩) (fun _ h => nomatch h) dX1_sheetNumber_61 (hlocks := hlocks)
    · have hv := (if_neg c1_1).symm.trans hv
      by_cases c1_2 : p2 = 2
      · have hv := (if_pos c1_2).symm.trans hv
        refine lv_tableIn (off := 61) (tgt := 62) hx hb dX1_sheetNumber_1 (by rw [c1_2]; decide) (by rw [c1_2]; decide) (by rw [c1_2]; rfl) (by decide) ?_
        refine lv_aload_n hx hb dX1_sheetNumber_62 rfl (lv_at hl 0 rfl) ?_
        refine va_get (D := D) (ci := 1) (v := .ref (a 1)) (C := RX1) (T := TX1) (N := 6) hx hb hts iw_X1 hown hK hP 0 rfl rfl 0 (by decide) (hts _ w_fl_X1_12) (fun _ h9 => h9) rfl dX1_sheetNumber_63 ?_
        refine lv_iload_n hx hb dX1_sheetNumber_66 rfl (lv_at hl 1 rfl) ?_
        refine ro_i (b2i (sX4_isToCheck O p1)) (run_c (va_runV (As := [.int p1]) (rest := []) ⟨hx, hb, hml, hown, hts⟩ (c_X4_isToCheck l D cs a O p1) (cwV 1 hts (good_V w_ml_X1_84 w_im_X4_isToCheck w_se_X4_isToCheck w_in_X4 w_co_X4_isToCheck) rfl rfl rfl ⟨rfl, hd_X4_isToCheck⟩ ⟨Nat.le_of_ble_eq_true rfl, Nat.le_of_ble_eq_true rfl⟩) (pe_W (C := RX4) (T := TX4) (N := 5) (ci := 4) (q0 := 1) hP hE rfl rfl) rfl rfl hl.1 rfl (lv_room (Nat.le_of_ble_eq_true rfl)) dX1_sheetNumber_67 ⟨Nat.zero_le _, Nat.zero_le _⟩)) ?_
        refine join_i (J := 78) (ls := ls) (rest := []) (b2i (if (sX4_isToCheck O p1) = true then true else false)) ?_ (fun hJ => ?_)
        · exact W.iret (v := b2i (if (sX4_isToCheck O p1) = true then true else false)) hx hb hr (fun t ht hW => ⟨b2i (if (sX4_isToCheck O p1) = true then true else false), rfl, hv, ht⟩) (fun _ h => nomatch h) dX1_sheetNumber_78 (hlocks := hlocks)
        · refine lv_if_eq (tgt := 77) hx hb dX1_sheetNumber_70 (by decide) (fun c70 => ?_) (fun c70 => ?_)
          · have c70 := b2i_f c70
            refine lv_iconst (v := 0) hx hb dX1_sheetNumber_77 (by decide) ?_
            exact hJ _ (congrArg b2i ((if_neg c70).trans rfl))
          · have c70 := b2i_t c70
            refine lv_iconst (v := 1) hx hb dX1_sheetNumber_73 (by decide) ?_
            refine lv_goto (tgt := 78) hx hb dX1_sheetNumber_74 (by decide) ?_
            exact hJ _ (congrArg b2i ((if_pos c70).trans rfl))
      · have hv := (if_neg c1_2).symm.trans hv
        by_cases c1_3 : p2 = 3
        · have hv := (if_pos c1_3).symm.trans hv
          refine lv_tableIn (off := 78) (tgt := 79) hx hb dX1_sheetNumber_1 (by rw [c1_3]; decide) (by rw [c1_3]; decide) (by rw [c1_3]; rfl) (by decide) ?_
          refine lv_aload_n hx hb dX1_sheetNumber_79 rfl (lv_at hl 0 rfl) ?_
          refine va_get (D := D) (ci := 1) (v := .ref (a 1)) (C := RX1) (T := TX1) (N := 6) hx hb hts iw_X1 hown hK hP 0 rfl rfl 0 (by decide) (hts _ w_fl_X1_12) (fun _ h9 => h9) rfl dX1_sheetNumber_80 ?_
          refine lv_iload_n hx hb dX1_sheetNumber_83 rfl (lv_at hl 1 rfl) ?_
          refine ro_i (sX4_countUnder O p1) (run_c (va_runV (As := [.int p1]) (rest := []) ⟨hx, hb, hml, hown, hts⟩ (c_X4_countUnder l D cs a O p1) (cwV 1 hts (good_V w_ml_X1_129 w_im_X4_countUnder w_se_X4_countUnder w_in_X4 w_co_X4_countUnder) rfl rfl rfl ⟨rfl, hd_X4_countUnder⟩ ⟨Nat.le_of_ble_eq_true rfl, Nat.le_of_ble_eq_true rfl⟩) (pe_W (C := RX4) (T := TX4) (N := 5) (ci := 4) (q0 := 1) hP hE rfl rfl) rfl rfl hl.1 rfl (lv_room (Nat.le_of_ble_eq_true rfl)) dX1_sheetNumber_84 ⟨Nat.zero_le _, Nat.zero_le _⟩)) ?_
          exact W.iret (v := sX4_countUnder O p1) hx hb hr (fun t ht hW => ⟨sX4_countUnder O p1, rfl, hv, ht⟩) (fun _ h => nomatch h) dX1_sheetNumber_87 (hlocks := hlocks)
        · have hv := (if_neg c1_3).symm.trans hv
          by_cases c1_4 : p2 = 4
          · have hv := (if_pos c1_4).symm.trans hv
            refine lv_tableIn (off := 87) (tgt := 88) hx hb dX1_sheetNumber_1 (by rw [c1_4]; decide) (by rw [c1_4]; decide) (by rw [c1_4]; rfl) (by decide) ?_
            refine lv_aload_n hx hb dX1_sheetNumber_88 rfl (lv_at hl 0 rfl) ?_
            refine va_get (D := D) (ci := 1) (v := .ref (a 1)) (C := RX1) (T := TX1) (N := 6) hx hb hts iw_X1 hown hK hP 0 rfl rfl 0 (by decide) (hts _ w_fl_X1_12) (fun _ h9 => h9) rfl dX1_sheetNumber_89 ?_
            refine lv_iload_n hx hb dX1_sheetNumber_92 rfl (lv_at hl 1 rfl) ?_
            refine ro_i (sX4_above O p1) (run_c (va_runV (As := [.int p1]) (rest := []) ⟨hx, hb, hml, hown, hts⟩ (c_X4_above l D cs a O p1) (cwV 1 hts (good_V w_ml_X1_132 w_im_X4_above w_se_X4_above w_in_X4 w_co_X4_above) rfl rfl rfl ⟨rfl, hd_X4_above⟩ ⟨Nat.le_of_ble_eq_true rfl, Nat.le_of_ble_eq_true rfl⟩) (pe_W (C := RX4) (T := TX4) (N := 5) (ci := 4) (q0 := 1) hP hE rfl rfl) rfl rfl hl.1 rfl (lv_room (Nat.le_of_ble_eq_true rfl)) dX1_sheetNumber_93 ⟨Nat.zero_le _, Nat.zero_le _⟩)) ?_
            refine ro_i (sJ6_bitCount_0f7a4 (sX4_above O p1)) (run_c (va_runS (As := [.int (sX4_above O p1)]) (rest := []) ⟨hx, hb, hml, hown, hts⟩ (c_J6_bitCount_0f7a4 l D cs (sX4_above O p1)) (va_cwS 1 hts (good_T w_ml_X1_76 w_st_J6_bitCount_0f7a4 w_in_J6 w_co_J6_bitCount_0f7a4) rfl rfl rfl hd_J6_bitCount_0f7a4 ⟨Nat.le_of_ble_eq_true rfl, Nat.le_of_ble_eq_true rfl⟩) (pe_S (p_nil D _) hE) rfl rfl hl.1 rfl (lv_room (Nat.le_of_ble_eq_true rfl)) dX1_sheetNumber_96 ⟨Nat.zero_le _, Nat.zero_le _⟩)) ?_
            exact W.iret (v := sJ6_bitCount_0f7a4 (sX4_above O p1)) hx hb hr (fun t ht hW => ⟨sJ6_bitCount_0f7a4 (sX4_above O p1), rfl, hv, ht⟩) (fun _ h => nomatch h) dX1_sheetNumber_99 (hlocks := hlocks)
          · have hv := (if_neg c1_4).symm.trans hv
            by_cases c1_5 : p2 = 5
            · have hv := (if_pos c1_5).symm.trans hv
              refine lv_tableIn (off := 99) (tgt := 100) hx hb dX1_sheetNumber_1 (by rw [c1_5]; decide) (by rw [c1_5]; decide) (by rw [c1_5]; rfl) (by decide) ?_
              refine lv_aload_n hx hb dX1_sheetNumber_100 rfl (lv_at hl 0 rfl) ?_
              refine va_get (D := D) (ci := 1) (v := .ref (a 2)) (C := RX1) (T := TX1) (N := 6) hx hb hts iw_X1 hown hK hP 0 rfl rfl 1 (by decide) (hts _ w_fl_X1_21) (fun _ h9 => h9) rfl dX1_sheetNumber_101 ?_
              refine lv_iload_n hx hb dX1_sheetNumber_104 rfl (lv_at hl 1 rfl) ?_
              refine ro_i (sX3_outCountOf O p1) (run_c (va_runV (As := [.int p1]) (rest := []) ⟨hx, hb, hml, hown, hts⟩ (c_X3_outCountOf l D cs a O p1) (cwV 1 hts (good_V w_ml_X1_135 w_im_X3_outCountOf w_se_X3_outCountOf w_in_X3 w_co_X3_outCountOf) rfl rfl rfl ⟨rfl, hd_X3_outCountOf⟩ ⟨Nat.le_of_ble_eq_true rfl, Nat.le_of_ble_eq_true rfl⟩) (pe_W (C := RX3) (T := TX3) (N := 8) (ci := 3) (q0 := 2) hP hE rfl rfl) rfl rfl hl.1 rfl (lv_room (Nat.le_of_ble_eq_true rfl)) dX1_sheetNumber_105 ⟨Nat.zero_le _, Nat.zero_le _⟩)) ?_
              exact W.iret (v := sX3_outCountOf O p1) hx hb hr (fun t ht hW => ⟨sX3_outCountOf O p1, rfl, hv, ht⟩) (fun _ h => nomatch h) dX1_sheetNumber_108 (hlocks := hlocks)
            · have hv := (if_neg c1_5).symm.trans hv
              by_cases c1_6 : p2 = 6
              · have hv := (if_pos c1_6).symm.trans hv
                refine lv_tableIn (off := 108) (tgt := 109) hx hb dX1_sheetNumber_1 (by rw [c1_6]; decide) (by rw [c1_6]; decide) (by rw [c1_6]; rfl) (by decide) ?_
                refine lv_aload_n hx hb dX1_sheetNumber_109 rfl (lv_at hl 0 rfl) ?_
                refine va_get (D := D) (ci := 1) (v := .ref (a 1)) (C := RX1) (T := TX1) (N := 6) hx hb hts iw_X1 hown hK hP 0 rfl rfl 0 (by decide) (hts _ w_fl_X1_12) (fun _ h9 => h9) rfl dX1_sheetNumber_110 ?_
                refine lv_iload_n hx hb dX1_sheetNumber_113 rfl (lv_at hl 1 rfl) ?_
                refine ro_i (sX4_heightOf O p1) (run_c (va_runV (As := [.int p1]) (rest := []) ⟨hx, hb, hml, hown, hts⟩ (c_X4_heightOf l D cs a O p1) (cwV 1 hts (good_V w_ml_X1_138 w_im_X4_heightOf w_se_X4_heightOf w_in_X4 w_co_X4_heightOf) rfl rfl rfl ⟨rfl, hd_X4_heightOf⟩ ⟨Nat.le_of_ble_eq_true rfl, Nat.le_of_ble_eq_true rfl⟩) (pe_W (C := RX4) (T := TX4) (N := 5) (ci := 4) (q0 := 1) hP hE rfl rfl) rfl rfl hl.1 rfl (lv_room (Nat.le_of_ble_eq_true rfl)) dX1_sheetNumber_114 ⟨Nat.zero_le _, Nat.zero_le _⟩)) ?_
                exact W.iret (v := sX4_heightOf O p1) hx hb hr (fun t ht hW => ⟨sX4_heightOf O p1, rfl, hv, ht⟩) (fun _ h => nomatch h) dX1_sheetNumber_117 (hlocks := hlocks)
              · have hv := (if_neg c1_6).symm.trans hv
                have e0 : p2.toInt ≠ 0 := sw_ne c1_0
                have e1 : p2.toInt ≠ 1 := sw_ne c1_1
                have e2 : p2.toInt ≠ 2 := sw_ne c1_2
                have e3 : p2.toInt ≠ 3 := sw_ne c1_3
                have e4 : p2.toInt ≠ 4 := sw_ne c1_4
                have e5 : p2.toInt ≠ 5 := sw_ne c1_5
                have e6 : p2.toInt ≠ 6 := sw_ne c1_6
                refine lv_tableOut (tgt := 118) hx hb dX1_sheetNumber_1 (by omega) (by decide) ?_
                refine lv_aload_n hx hb dX1_sheetNumber_118 rfl (lv_at hl 0 rfl) ?_
                refine lv_iconst (v := (-1)) hx hb dX1_sheetNumber_119 (by decide) ?_
                refine lv_iload_n hx hb dX1_sheetNumber_120 rfl (lv_at hl 1 rfl) ?_
                refine ro_i (sX1_wrongWorks O (-1) p1) (run_c (va_runV (As := [.int (-1), .int p1]) (rest := []) ⟨hx, hb, hml, hown, hts⟩ (c_X1_wrongWorks l D cs a O (-1) p1) (cwV 2 hts (good_V w_ml_X1_119 w_im_X1_wrongWorks w_se_X1_wrongWorks w_in_X1 w_co_X1_wrongWorks) rfl rfl rfl ⟨rfl, hd_X1_wrongWorks⟩ ⟨Nat.le_of_ble_eq_true rfl, Nat.le_of_ble_eq_true rfl⟩) (pe_W (C := RX1) (T := TX1) (N := 6) (ci := 1) (q0 := 0) hP hE rfl rfl) rfl rfl hl.1 rfl (lv_room (Nat.le_of_ble_eq_true rfl)) dX1_sheetNumber_121 ⟨Nat.zero_le _, Nat.zero_le _⟩)) ?_
                exact W.iret (v := sX1_wrongWorks O (-1) p1) hx hb hr (fun t ht hW => ⟨sX1_wrongWorks O (-1) p1, rfl, hv, ht⟩) (fun _ h => nomatch h) dX1_sheetNumber_124 (hlocks := hlocks)
theorem hd_X1_printNumber : yX1_printNumber.cls ≠ "java/lang/invoke/MethodHandle" ∧ yX1_printNumber.cls ≠ "java/lang/invoke/VarHandle" ∧ (parseMethodDescriptor yX1_printNumber.desc).map (fun d => d.parameters.length) = some 2 := by decide +kernel
def sX1_printNumber (O : OF) (p1 : Int32) (p2 : Int32) : Int32 := (if p2 = 0 then sX3_sheetOf O p1 else (if p2 = 1 then sX3_revisionOf O p1 else (if p2 = 2 then sX3_siteOf O p1 else (if p2 = 3 then sX3_dayOf O p1 else (if p2 = 4 then sX3_stampsOf O p1 else (if p2 = 5 then b2i (if (sX3_isOut O p1) = true then true else false) else (if p2 = 6 then sX3_dueOf O p1 else (if p2 = 7 then b2i (if (sX1_mayBuildBy O p1) = true then true else false) else sX4_fieldsDrawn O (sX3_sheetOf O p1) 0 (sX3_revisionOf O p1)))))))))
set_option maxHeartbeats 4000000 in
set_option maxRecDepth 100000 in
theorem c_X1_printNumber (l : Launch) (D : va_G) (cs : Nat → ClassId) (a : Nat → Nat) (O : OF) (p1 : Int32) (p2 : Int32) : Met l yX1_printNumber (wc yX1_printNumber cX1_printNumber 3 (some .int)) ({ frames := 4, cells := 0, slots := 0, locals := 84 } : Room) (va_Pc [.ref (a 0), .int p1, .int p2] (PE D cs (ofW cs a O))) (vp_Si (fun r9 => r9 = (sX1_printNumber O p1 p2))) 0 0 (fun _ => False) := by
  obtain ⟨v, hv⟩ : ∃ v, sX1_printNumber O p1 p2 = v := ⟨_, rfl⟩
  rw [hv]
  refine met_o (lv := [(0, .ref (a 0)), (1, .int p1), (2, .int p2)]) (by decide) (Nat.le_of_ble_eq_true rfl) rfl ?_
  intro p e s m args below meth c ls hx hb hr hml hts hown hlocks hin hP hE hl
  have hown : s.vm.findClass RX1 = some m.cls := hown
  have hK := hE.1
  have hP : va_P D vwC (ofW cs a O) s.heap := hP
  unfold sX1_printNumber at hv
  refine lv_iload_n hx hb dX1_printNumber_0 rfl (lv_at hl 2 rfl) ?_
  by_cases c1_0 : p2 = 0
  · have hv := (if_pos c1_0).symm.trans hv
    refine lv_tableIn (off := 47) (tgt := 48) hx hb dX1_printNumber_1 (by rw [c1_0]; decide) (by rw [c1_0]; decide) (by rw [c1_0]; rfl) (by decide) ?_
    refine lv_aload_n hx hb dX1_printNumber_48 rfl (lv_at hl 0 rfl) ?_
    refine va_get (D := D) (ci := 1) (v := .ref (a 2)) (C := RX1) (T := TX1) (N := 6) hx hb hts iw_X1 hown hK hP 0 rfl rfl 1 (by decide) (hts _ w_fl_X1_21) (fun _ h9 => h9) rfl dX1_printNumber_49 ?_
    refine lv_iload_n hx hb dX1_printNumber_52 rfl (lv_at hl 1 rfl) ?_
    refine ro_i (sX3_sheetOf O p1) (run_c (va_runV (As := [.int p1]) (rest := []) ⟨hx, hb, hml, hown, hts⟩ (c_X3_sheetOf l D cs a O p1) (cwV 1 hts (good_V w_ml_X1_81 w_im_X3_sheetOf w_se_X3_sheetOf w_in_X3 w_co_X3_sheetOf) rfl rfl rfl ⟨rfl, hd_X3_sheetOf⟩ ⟨Nat.le_of_ble_eq_true rfl, Nat.le_of_ble_eq_true rfl⟩) (pe_W (C := RX3) (T := TX3) (N := 8) (ci := 3) (q0 := 2) hP hE rfl rfl) rfl rfl hl.1 rfl (lv_room (Nat.le_of_ble_eq_true rfl)) dX1_printNumber_53 ⟨Nat.zero_le _, Nat.zero_le _⟩)) ?_
    exact W.iret (v := sX3_sheetOf O p1) hx hb hr (fun t ht hW => ⟨sX3_sheetOf O p1, rfl, hv, ht⟩) (fun _ h => nomatch h) dX1_printNumber_56 (hlocks := hlocks)
  · have hv := (if_neg c1_0).symm.trans hv
    by_cases c1_1 : p2 = 1
    · have hv := (if_pos c1_1).symm.trans hv
      refine lv_tableIn (off := 56) (tgt := 57) hx hb dX1_printNumber_1 (by rw [c1_1]; decide) (by rw [c1_1]; decide) (by rw [c1_1]; rfl) (by decide) ?_
      refine lv_aload_n hx hb dX1_printNumber_57 rfl (lv_at hl 0 rfl) ?_
      refine va_get (D := D) (ci := 1) (v := .ref (a 2)) (C := RX1) (T := TX1) (N := 6) hx hb hts iw_X1 hown hK hP 0 rfl rfl 1 (by decide) (hts _ w_fl_X1_21) (fun _ h9 => h9) rfl dX1_printNumber_58 ?_
      refine lv_iload_n hx hb dX1_printNumber_61 rfl (lv_at hl 1 rfl) ?_
      refine ro_i (sX3_revisionOf O p1) (run_c (va_runV (As := [.int p1]) (rest := []) ⟨hx, hb, hml, hown, hts⟩ (c_X3_revisionOf l D cs a O p1) (cwV 1 hts (good_V w_ml_X1_141 w_im_X3_revisionOf w_se_X3_revisionOf w_in_X3 w_co_X3_revisionOf) rfl rfl rfl ⟨rfl, hd_X3_revisionOf⟩ ⟨Nat.le_of_ble_eq_true rfl, Nat.le_of_ble_eq_true rfl⟩) (pe_W (C := RX3) (T := TX3) (N := 8) (ci := 3) (q0 := 2) hP hE rfl rfl) rfl rfl hl.1 rfl (lv_room (Nat.le_of_ble_eq_true rfl)) dX1_printNumber_62 ⟨Nat.zero_le _, Nat.zero_le _⟩)) ?_
      exact W.iret (v := sX3_revisionOf O p1) hx hb hr (fun t ht hW => ⟨sX3_revisionOf O p1, rfl, hv, ht⟩) (fun _ h => nomatch h) dX1_printNumber_65 (hlocks := hlocks)
    · have hv := (if_neg c1_1).symm.trans hv
      by_cases c1_2 : p2 = 2
      · have hv := (if_pos c1_2).symm.trans hv
        refine lv_tableIn (off := 65) (tgt := 66) hx hb dX1_printNumber_1 (by rw [c1_2]; decide) (by rw [c1_2]; decide) (by rw [c1_2]; rfl) (by decide) ?_
        refine lv_aload_n hx hb dX1_printNumber_66 rfl (lv_at hl 0 rfl) ?_
        refine va_get (D := D) (ci := 1) (v := .ref (a 2)) (C := RX1) (T := TX1) (N := 6) hx hb hts iw_X1 hown hK hP 0 rfl rfl 1 (by decide) (hts _ w_fl_X1_21) (fun _ h9 => h9) rfl dX1_printNumber_67 ?_
        refine lv_iload_n hx hb dX1_printNumber_70 rfl (lv_at hl 1 rfl) ?_
        refine ro_i (sX3_siteOf O p1) (run_c (va_runV (As := [.int p1]) (rest := []) ⟨hx, hb, hml, hown, hts⟩ (c_X3_siteOf l D cs a O p1) (cwV 1 hts (good_V w_ml_X1_142 w_im_X3_siteOf w_se_X3_siteOf w_in_X3 w_co_X3_siteOf) rfl rfl rfl ⟨rfl, hd_X3_siteOf⟩ ⟨Nat.le_of_ble_eq_true rfl, Nat.le_of_ble_eq_true rfl⟩) (pe_W (C := RX3) (T := TX3) (N := 8) (ci := 3) (q0 := 2) hP hE rfl rfl) rfl rfl hl.1 rfl (lv_room (Nat.le_of_ble_eq_true rfl)) dX1_printNumber_71 ⟨Nat.zero_le _, Nat.zero_le _⟩)) ?_
        exact W.iret (v := sX3_siteOf O p1) hx hb hr (fun t ht hW => ⟨sX3_siteOf O p1, rfl, hv, ht⟩) (fun _ h => nomatch h) dX1_printNumber_74 (hlocks := hlocks)
      · have hv := (if_neg c1_2).symm.trans hv
        by_cases c1_3 : p2 = 3
        · have hv := (if_pos c1_3).symm.trans hv
          refine lv_tableIn (off := 74) (tgt := 75) hx hb dX1_printNumber_1 (by rw [c1_3]; decide) (by rw [c1_3]; decide) (by rw [c1_3]; rfl) (by decide) ?_
          refine lv_aload_n hx hb dX1_printNumber_75 rfl (lv_at hl 0 rfl) ?_
          refine va_get (D := D) (ci := 1) (v := .ref (a 2)) (C := RX1) (T := TX1) (N := 6) hx hb hts iw_X1 hown hK hP 0 rfl rfl 1 (by decide) (hts _ w_fl_X1_21) (fun _ h9 => h9) rfl dX1_printNumber_76 ?_
          refine lv_iload_n hx hb dX1_printNumber_79 rfl (lv_at hl 1 rfl) ?_
          refine ro_i (sX3_dayOf O p1) (run_c (va_runV (As := [.int p1]) (rest := []) ⟨hx, hb, hml, hown, hts⟩ (c_X3_dayOf l D cs a O p1) (cwV 1 hts (good_V w_ml_X1_143 w_im_X3_dayOf w_se_X3_dayOf w_in_X3 w_co_X3_dayOf) rfl rfl rfl ⟨rfl, hd_X3_dayOf⟩ ⟨Nat.le_of_ble_eq_true rfl, Nat.le_of_ble_eq_true rfl⟩) (pe_W (C := RX3) (T := TX3) (N := 8) (ci := 3) (q0 := 2) hP hE rfl rfl) rfl rfl hl.1 rfl (lv_room (Nat.le_of_ble_eq_true rfl)) dX1_printNumber_80 ⟨Nat.zero_le _, Nat.zero_le _⟩)) ?_
          exact W.iret (v := sX3_dayOf O p1) hx hb hr (fun t ht hW => ⟨sX3_dayOf O p1, rfl, hv, ht⟩) (fun _ h => nomatch h) dX1_printNumber_83 (hlocks := hlocks)
        · have hv := (if_neg c1_3).symm.trans hv
          by_cases c1_4 : p2 = 4
          · have hv := (if_pos c1_4).symm.trans hv
            refine lv_tableIn (off := 83) (tgt := 84) hx hb dX1_printNumber_1 (by rw [c1_4]; decide) (by rw [c1_4]; decide) (by rw [c1_4]; rfl) (by decide) ?_
            refine lv_aload_n hx hb dX1_printNumber_84 rfl (lv_at hl 0 rfl) ?_
            refine va_get (D := D) (ci := 1) (v := .ref (a 2)) (C := RX1) (T := TX1) (N := 6) hx hb hts iw_X1 hown hK hP 0 rfl rfl 1 (by decide) (hts _ w_fl_X1_21) (fun _ h9 => h9) rfl dX1_printNumber_85 ?_
            refine lv_iload_n hx hb dX1_printNumber_88 rfl (lv_at hl 1 rfl) ?_
            refine ro_i (sX3_stampsOf O p1) (run_c (va_runV (As := [.int p1]) (rest := []) ⟨hx, hb, hml, hown, hts⟩ (c_X3_stampsOf l D cs a O p1) (cwV 1 hts (good_V w_ml_X1_72 w_im_X3_stampsOf w_se_X3_stampsOf w_in_X3 w_co_X3_stampsOf) rfl rfl rfl ⟨rfl, hd_X3_stampsOf⟩ ⟨Nat.le_of_ble_eq_true rfl, Nat.le_of_ble_eq_true rfl⟩) (pe_W (C := RX3) (T := TX3) (N := 8) (ci := 3) (q0 := 2) hP hE rfl rfl) rfl rfl hl.1 rfl (lv_room (Nat.le_of_ble_eq_true rfl)) dX1_printNumber_89 ⟨Nat.zero_le _, Nat.zero_le _⟩)) ?_
            exact W.iret (v := sX3_stampsOf O p1) hx hb hr (fun t ht hW => ⟨sX3_stampsOf O p1, rfl, hv, ht⟩) (fun _ h => nomatch h) dX1_printNumber_92 (hlocks := hlocks)
          · have hv := (if_neg c1_4).symm.trans hv
            by_cases c1_5 : p2 = 5
            · have hv := (if_pos c1_5).symm.trans hv
              refine lv_tableIn (off := 92) (tgt := 93) hx hb dX1_printNumber_1 (by rw [c1_5]; decide) (by rw [c1_5]; decide) (by rw [c1_5]; rfl) (by decide) ?_
              refine lv_aload_n hx hb dX1_printNumber_93 rfl (lv_at hl 0 rfl) ?_
              refine va_get (D := D) (ci := 1) (v := .ref (a 2)) (C := RX1) (T := TX1) (N := 6) hx hb hts iw_X1 hown hK hP 0 rfl rfl 1 (by decide) (hts _ w_fl_X1_21) (fun _ h9 => h9) rfl dX1_printNumber_94 ?_
              refine lv_iload_n hx hb dX1_printNumber_97 rfl (lv_at hl 1 rfl) ?_
              refine ro_i (b2i (sX3_isOut O p1)) (run_c (va_runV (As := [.int p1]) (rest := []) ⟨hx, hb, hml, hown, hts⟩ (c_X3_isOut l D cs a O p1) (cwV 1 hts (good_V w_ml_X1_146 w_im_X3_isOut w_se_X3_isOut w_in_X3 w_co_X3_isOut) rfl rfl rfl ⟨rfl, hd_X3_isOut⟩ ⟨Nat.le_of_ble_eq_true rfl, Nat.le_of_ble_eq_true rfl⟩) (pe_W (C := RX3) (T := TX3) (N := 8) (ci := 3) (q0 := 2) hP hE rfl rfl) rfl rfl hl.1 rfl (lv_room (Nat.le_of_ble_eq_true rfl)) dX1_printNumber_98 ⟨Nat.zero_le _, Nat.zero_le _⟩)) ?_
              refine join_i (J := 109) (ls := ls) (rest := []) (b2i (if (sX3_isOut O p1) = true then true else false)) ?_ (fun hJ => ?_)
              · exact W.iret (v := b2i (if (sX3_isOut O p1) = true then true else false)) hx hb hr (fun t ht hW => ⟨b2i (if (sX3_isOut O p1) = true then true else false), rfl, hv, ht⟩) (fun _ h => nomatch h) dX1_printNumber_109 (hlocks := hlocks)
              · refine lv_if_eq (tgt := 108) hx hb dX1_printNumber_101 (by decide) (fun c101 => ?_) (fun c101 => ?_)
                · have c101 := b2i_f c101
                  refine lv_iconst (v := 0) hx hb dX1_printNumber_108 (by decide) ?_
                  exact hJ _ (congrArg b2i ((if_neg c101).trans rfl))
                · have c101 := b2i_t c101
                  refine lv_iconst (v := 1) hx hb dX1_printNumber_104 (by decide) ?_
                  refine lv_goto (tgt := 109) hx hb dX1_printNumber_105 (by decide) ?_
                  exact hJ _ (congrArg b2i ((if_pos c101).trans rfl))
            · have hv := (if_neg c1_5).symm.trans hv
              by_cases c1_6 : p2 = 6
              · have hv := (if_pos c1_6).symm.trans hv
                refine lv_tableIn (off := 109) (tgt := 110) hx hb dX1_printNumber_1 (by rw [c1_6]; decide) (by rw [c1_6]; decide) (by rw [c1_6]; rfl) (by decide) ?_
                refine lv_aload_n hx hb dX1_printNumber_110 rfl (lv_at hl 0 rfl) ?_
                refine va_get (D := D) (ci := 1) (v := .ref (a 2)) (C := RX1) (T := TX1) (N := 6) hx hb hts iw_X1 hown hK hP 0 rfl rfl 1 (by decide) (hts _ w_fl_X1_21) (fun _ h9 => h9) rfl dX1_printNumber_111 ?_
                refine lv_iload_n hx hb dX1_printNumber_114 rfl (lv_at hl 1 rfl) ?_
                refine ro_i (sX3_dueOf O p1) (run_c (va_runV (As := [.int p1]) (rest := []) ⟨hx, hb, hml, hown, hts⟩ (c_X3_dueOf l D cs a O p1) (cwV 1 hts (good_V w_ml_X1_149 w_im_X3_dueOf w_se_X3_dueOf w_in_X3 w_co_X3_dueOf) rfl rfl rfl ⟨rfl, hd_X3_dueOf⟩ ⟨Nat.le_of_ble_eq_true rfl, Nat.le_of_ble_eq_true rfl⟩) (pe_W (C := RX3) (T := TX3) (N := 8) (ci := 3) (q0 := 2) hP hE rfl rfl) rfl rfl hl.1 rfl (lv_room (Nat.le_of_ble_eq_true rfl)) dX1_printNumber_115 ⟨Nat.zero_le _, Nat.zero_le _⟩)) ?_
                exact W.iret (v := sX3_dueOf O p1) hx hb hr (fun t ht hW => ⟨sX3_dueOf O p1, rfl, hv, ht⟩) (fun _ h => nomatch h) dX1_printNumber_118 (hlocks := hlocks)
              · have hv := (if_neg c1_6).symm.trans hv
                by_cases c1_7 : p2 = 7
                · have hv := (if_pos c1_7).symm.trans hv
                  refine lv_tableIn (off := 118) (tgt := 119) hx hb dX1_printNumber_1 (by rw [c1_7]; decide) (by rw [c1_7]; decide) (by rw [c1_7]; rfl) (by decide) ?_
                  refine lv_aload_n hx hb dX1_printNumber_119 rfl (lv_at hl 0 rfl) ?_
                  refine lv_iload_n hx hb dX1_printNumber_120 rfl (lv_at hl 1 rfl) ?_
                  refine ro_i (b2i (sX1_mayBuildBy O p1)) (run_c (va_runV (As := [.int p1]) (rest := []) ⟨hx, hb, hml, hown, hts⟩ (c_X1_mayBuildBy l D cs a O p1) (cwV 1 hts (good_V w_ml_X1_152 w_im_X1_mayBuildBy w_se_X1_mayBuildBy w_in_X1 w_co_X1_mayBuildBy) rfl rfl rfl ⟨rfl, hd_X1_mayBuildBy⟩ ⟨Nat.le_of_ble_eq_true rfl, Nat.le_of_ble_eq_true rfl⟩) (pe_W (C := RX1) (T := TX1) (N := 6) (ci := 1) (q0 := 0) hP hE rfl rfl) rfl rfl hl.1 rfl (lv_room (Nat.le_of_ble_eq_true rfl)) dX1_printNumber_121 ⟨Nat.zero_le _, Nat.zero_le _⟩)) ?_
                  refine join_i (J := 132) (ls := ls) (rest := []) (b2i (if (sX1_mayBuildBy O p1) = true then true else false)) ?_ (fun hJ => ?_)
                  · exact W.iret (v := b2i (if (sX1_mayBuildBy O p1) = true then true else false)) hx hb hr (fun t ht hW => ⟨b2i (if (sX1_mayBuildBy O p1) = true then true else false), rfl, hv, ht⟩) (fun _ h => nomatch h) dX1_printNumber_132 (hlocks := hlocks)
                  · refine lv_if_eq (tgt := 131) hx hb dX1_printNumber_124 (by decide) (fun c124 => ?_) (fun c124 => ?_)
                    · have c124 := b2i_f c124
                      refine lv_iconst (v := 0) hx hb dX1_printNumber_131 (by decide) ?_
                      exact hJ _ (congrArg b2i ((if_neg c124).trans rfl))
                    · have c124 := b2i_t c124
                      refine lv_iconst (v := 1) hx hb dX1_printNumber_127 (by decide) ?_
                      refine lv_goto (tgt := 132) hx hb dX1_printNumber_128 (by decide) ?_
                      exact hJ _ (congrArg b2i ((if_pos c124).trans rfl))
                · have hv := (if_neg c1_7).symm.trans hv
                  have e0 : p2.toInt ≠ 0 := sw_ne c1_0
                  have e1 : p2.toInt ≠ 1 := sw_ne c1_1
                  have e2 : p2.toInt ≠ 2 := sw_ne c1_2
                  have e3 : p2.toInt ≠ 3 := sw_ne c1_3
                  have e4 : p2.toInt ≠ 4 := sw_ne c1_4
                  have e5 : p2.toInt ≠ 5 := sw_ne c1_5
                  have e6 : p2.toInt ≠ 6 := sw_ne c1_6
                  have e7 : p2.toInt ≠ 7 := sw_ne c1_7
                  refine lv_tableOut (tgt := 133) hx hb dX1_printNumber_1 (by omega) (by decide) ?_
                  refine lv_aload_n hx hb dX1_printNumber_133 rfl (lv_at hl 0 rfl) ?_
                  refine va_get (D := D) (ci := 1) (v := .ref (a 1)) (C := RX1) (T := TX1) (N := 6) hx hb hts iw_X1 hown hK hP 0 rfl rfl 0 (by decide) (hts _ w_fl_X1_12) (fun _ h9 => h9) rfl dX1_printNumber_134 ?_
                  refine lv_aload_n hx hb dX1_printNumber_137 rfl (lv_at hl 0 rfl) ?_
                  refine va_get (D := D) (ci := 1) (v := .ref (a 2)) (C := RX1) (T := TX1) (N := 6) hx hb hts iw_X1 hown hK hP 0 rfl rfl 1 (by decide) (hts _ w_fl_X1_21) (fun _ h9 => h9) rfl dX1_printNumber_138 ?_
                  refine lv_iload_n hx hb dX1_printNumber_141 rfl (lv_at hl 1 rfl) ?_
                  refine ro_i (sX3_sheetOf O p1) (run_c (va_runV (As := [.int p1]) (rest := [.ref (a 1)]) ⟨hx, hb, hml, hown, hts⟩ (c_X3_sheetOf l D cs a O p1) (cwV 1 hts (good_V w_ml_X1_81 w_im_X3_sheetOf w_se_X3_sheetOf w_in_X3 w_co_X3_sheetOf) rfl rfl rfl ⟨rfl, hd_X3_sheetOf⟩ ⟨Nat.le_of_ble_eq_true rfl, Nat.le_of_ble_eq_true rfl⟩) (pe_W (C := RX3) (T := TX3) (N := 8) (ci := 3) (q0 := 2) hP hE rfl rfl) rfl rfl hl.1 rfl (lv_room (Nat.le_of_ble_eq_true rfl)) dX1_printNumber_142 ⟨Nat.zero_le _, Nat.zero_le _⟩)) ?_
                  refine lv_iconst (v := 0) hx hb dX1_printNumber_145 (by decide) ?_
                  refine lv_aload_n hx hb dX1_printNumber_146 rfl (lv_at hl 0 rfl) ?_
                  refine va_get (D := D) (ci := 1) (v := .ref (a 2)) (C := RX1) (T := TX1) (N := 6) hx hb hts iw_X1 hown hK hP 0 rfl rfl 1 (by decide) (hts _ w_fl_X1_21) (fun _ h9 => h9) rfl dX1_printNumber_147 ?_
                  refine lv_iload_n hx hb dX1_printNumber_150 rfl (lv_at hl 1 rfl) ?_
                  refine ro_i (sX3_revisionOf O p1) (run_c (va_runV (As := [.int p1]) (rest := [.int 0, .int (sX3_sheetOf O p1), .ref (a 1)]) ⟨hx, hb, hml, hown, hts⟩ (c_X3_revisionOf l D cs a O p1) (cwV 1 hts (good_V w_ml_X1_141 w_im_X3_revisionOf w_se_X3_revisionOf w_in_X3 w_co_X3_revisionOf) rfl rfl rfl ⟨rfl, hd_X3_revisionOf⟩ ⟨Nat.le_of_ble_eq_true rfl, Nat.le_of_ble_eq_true rfl⟩) (pe_W (C := RX3) (T := TX3) (N := 8) (ci := 3) (q0 := 2) hP hE rfl rfl) rfl rfl hl.1 rfl (lv_room (Nat.le_of_ble_eq_true rfl)) dX1_printNumber_151 ⟨Nat.zero_le _, Nat.zero_le _⟩)) ?_
                  refine ro_i (sX4_fieldsDrawn O (sX3_sheetOf O p1) 0 (sX3_revisionOf O p1)) (run_c (va_runV (As := [.int (sX3_sheetOf O p1), .int 0, .int (sX3_revisionOf O p1)]) (rest := []) ⟨hx, hb, hml, hown, hts⟩ (c_X4_fieldsDrawn l D cs a O (sX3_sheetOf O p1) 0 (sX3_revisionOf O p1)) (cwV 3 hts (good_V w_ml_X1_155 w_im_X4_fieldsDrawn w_se_X4_fieldsDrawn w_in_X4 w_co_X4_fieldsDrawn) rfl rfl rfl ⟨rfl, hd_X4_fieldsDrawn⟩ ⟨Nat.le_of_ble_eq_true rfl, Nat.le_of_ble_eq_true rfl⟩) (pe_W (C := RX4) (T := TX4) (N := 5) (ci := 4) (q0 := 1) hP hE rfl rfl) rfl rfl hl.1 rfl (lv_room (Nat.le_of_ble_eq_true rfl)) dX1_printNumber_154 ⟨Nat.zero_le _, Nat.zero_le _⟩)) ?_
                  exact W.iret (v := sX4_fieldsDrawn O (sX3_sheetOf O p1) 0 (sX3_revisionOf O p1)) hx hb hr (fun t ht hW => ⟨sX4_fieldsDrawn O (sX3_sheetOf O p1) 0 (sX3_revisionOf O p1), rfl, hv, ht⟩) (fun _ h => nomatch h) dX1_printNumber_157 (hlocks := hlocks)
theorem hd_X1_workNumber : yX1_workNumber.cls ≠ "java/lang/invoke/MethodHandle" ∧ yX1_workNumber.cls ≠ "java/lang/invoke/VarHandle" ∧ (parseMethodDescriptor yX1_workNumber.desc).map (fun d => d.parameters.length) = some 2 := by decide +kernel
def sX1_workNumber (O : OF) (p1 : Int32) (p2 : Int32) : Int32 := (if p2 = 0 then sX6_siteOf O p1 else (if p2 = 1 then sX6_sheetOf O p1 else (if p2 = 2 then sX6_fieldOf O p1 else (if p2 = 3 then sX6_revisionOf O p1 else b2i (if (sX1_isWrong O p1) = true then true else false)))))
set_option maxHeartbeats 4000000 in
set_option maxRecDepth 100000 in
theorem c_X1_workNumber (l : Launch) (D : va_G) (cs : Nat → ClassId) (a : Nat → Nat) (O : OF) (p1 : Int32) (p2 : Int32) : Met l yX1_workNumber (wc yX1_workNumber cX1_workNumber 3 (some .int)) ({ frames := 3, cells := 0, slots := 0, locals := 64 } : Room) (va_Pc [.ref (a 0), .int p1, .int p2] (PE D cs (ofW cs a O))) (vp_Si (fun r9 => r9 = (sX1_workNumber O p1 p2))) 0 0 (fun _ => False) := by
  obtain ⟨v, hv⟩ : ∃ v, sX1_workNumber O p1 p2 = v := ⟨_, rfl⟩
  rw [hv]
  refine met_o (lv := [(0, .ref (a 0)), (1, .int p1), (2, .int p2)]) (by decide) (Nat.le_of_ble_eq_true rfl) rfl ?_
  intro p e s m args below meth c ls hx hb hr hml hts hown hlocks hin hP hE hl
  have hown : s.vm.findClass RX1 = some m.cls := hown
  have hK := hE.1
  have hP : va_P D vwC (ofW cs a O) s.heap := hP
  unfold sX1_workNumber at hv
  refine lv_iload_n hx hb dX1_workNumber_0 rfl (lv_at hl 2 rfl) ?_
  by_cases c1_0 : p2 = 0
  · have hv := (if_pos c1_0).symm.trans hv
    refine lv_tableIn (off := 31) (tgt := 32) hx hb dX1_workNumber_1 (by rw [c1_0]; decide) (by rw [c1_0]; decide) (by rw [c1_0]; rfl) (by decide) ?_
    refine lv_aload_n hx hb dX1_workNumber_32 rfl (lv_at hl 0 rfl) ?_
    refine va_get (D := D) (ci := 1) (v := .ref (a 3)) (C := RX1) (T := TX1) (N := 6) hx hb hts iw_X1 hown hK hP 0 rfl rfl 2 (by decide) (hts _ w_fl_X1_28) (fun _ h9 => h9) rfl dX1_workNumber_33 ?_
    refine lv_iload_n hx hb dX1_workNumber_36 rfl (lv_at hl 1 rfl) ?_
    refine ro_i (sX6_siteOf O p1) (run_c (va_runV (As := [.int p1]) (rest := []) ⟨hx, hb, hml, hown, hts⟩ (c_X6_siteOf l D cs a O p1) (cwV 1 hts (good_V w_ml_X1_102 w_im_X6_siteOf w_se_X6_siteOf w_in_X6 w_co_X6_siteOf) rfl rfl rfl ⟨rfl, hd_X6_siteOf⟩ ⟨Nat.le_of_ble_eq_true rfl, Nat.le_of_ble_eq_true rfl⟩) (pe_W (C := RX6) (T := TX6) (N := 5) (ci := 6) (q0 := 3) hP hE rfl rfl) rfl rfl hl.1 rfl (lv_room (Nat.le_of_ble_eq_true rfl)) dX1_workNumber_37 ⟨Nat.zero_le _, Nat.zero_le _⟩)) ?_
    exact W.iret (v := sX6_siteOf O p1) hx hb hr (fun t ht hW => ⟨sX6_siteOf O p1, rfl, hv, ht⟩) (fun _ h => nomatch h) dX1_workNumber_40 (hlocks := hlocks)
  · have hv := (if_neg c1_0).symm.trans hv
    by_cases c1_1 : p2 = 1
    · have hv := (if_pos c1_1).symm.trans hv
      refine lv_tableIn (off := 40) (tgt := 41) hx hb dX1_workNumber_1 (by rw [c1_1]; decide) (by rw [c1_1]; decide) (by rw [c1_1]; rfl) (by decide) ?_
      refine lv_aload_n hx hb dX1_workNumber_41 rfl (lv_at hl 0 rfl) ?_
      refine va_get (D := D) (ci := 1) (v := .ref (a 3)) (C := RX1) (T := TX1) (N := 6) hx hb hts iw_X1 hown hK hP 0 rfl rfl 2 (by decide) (hts _ w_fl_X1_28) (fun _ h9 => h9) rfl dX1_workNumber_42 ?_
      refine lv_iload_n hx hb dX1_workNumber_45 rfl (lv_at hl 1 rfl) ?_
      refine ro_i (sX6_sheetOf O p1) (run_c (va_runV (As := [.int p1]) (rest := []) ⟨hx, hb, hml, hown, hts⟩ (c_X6_sheetOf l D cs a O p1) (cwV 1 hts (good_V w_ml_X1_87 w_im_X6_sheetOf w_se_X6_sheetOf w_in_X6 w_co_X6_sheetOf) rfl rfl rfl ⟨rfl, hd_X6_sheetOf⟩ ⟨Nat.le_of_ble_eq_true rfl, Nat.le_of_ble_eq_true rfl⟩) (pe_W (C := RX6) (T := TX6) (N := 5) (ci := 6) (q0 := 3) hP hE rfl rfl) rfl rfl hl.1 rfl (lv_room (Nat.le_of_ble_eq_true rfl)) dX1_workNumber_46 ⟨Nat.zero_le _, Nat.zero_le _⟩)) ?_
      exact W.iret (v := sX6_sheetOf O p1) hx hb hr (fun t ht hW => ⟨sX6_sheetOf O p1, rfl, hv, ht⟩) (fun _ h => nomatch h) dX1_workNumber_49 (hlocks := hlocks)
    · have hv := (if_neg c1_1).symm.trans hv
      by_cases c1_2 : p2 = 2
      · have hv := (if_pos c1_2).symm.trans hv
        refine lv_tableIn (off := 49) (tgt := 50) hx hb dX1_workNumber_1 (by rw [c1_2]; decide) (by rw [c1_2]; decide) (by rw [c1_2]; rfl) (by decide) ?_
        refine lv_aload_n hx hb dX1_workNumber_50 rfl (lv_at hl 0 rfl) ?_
        refine va_get (D := D) (ci := 1) (v := .ref (a 3)) (C := RX1) (T := TX1) (N := 6) hx hb hts iw_X1 hown hK hP 0 rfl rfl 2 (by decide) (hts _ w_fl_X1_28) (fun _ h9 => h9) rfl dX1_workNumber_51 ?_
        refine lv_iload_n hx hb dX1_workNumber_54 rfl (lv_at hl 1 rfl) ?_
        refine ro_i (sX6_fieldOf O p1) (run_c (va_runV (As := [.int p1]) (rest := []) ⟨hx, hb, hml, hown, hts⟩ (c_X6_fieldOf l D cs a O p1) (cwV 1 hts (good_V w_ml_X1_88 w_im_X6_fieldOf w_se_X6_fieldOf w_in_X6 w_co_X6_fieldOf) rfl rfl rfl ⟨rfl, hd_X6_fieldOf⟩ ⟨Nat.le_of_ble_eq_true rfl, Nat.le_of_ble_eq_true rfl⟩) (pe_W (C := RX6) (T := TX6) (N := 5) (ci := 6) (q0 := 3) hP hE rfl rfl) rfl rfl hl.1 rfl (lv_room (Nat.le_of_ble_eq_true rfl)) dX1_workNumber_55 ⟨Nat.zero_le _, Nat.zero_le _⟩)) ?_
        exact W.iret (v := sX6_fieldOf O p1) hx hb hr (fun t ht hW => ⟨sX6_fieldOf O p1, rfl, hv, ht⟩) (fun _ h => nomatch h) dX1_workNumber_58 (hlocks := hlocks)
      · have hv := (if_neg c1_2).symm.trans hv
        by_cases c1_3 : p2 = 3
        · have hv := (if_pos c1_3).symm.trans hv
          refine lv_tableIn (off := 58) (tgt := 59) hx hb dX1_workNumber_1 (by rw [c1_3]; decide) (by rw [c1_3]; decide) (by rw [c1_3]; rfl) (by decide) ?_
          refine lv_aload_n hx hb dX1_workNumber_59 rfl (lv_at hl 0 rfl) ?_
          refine va_get (D := D) (ci := 1) (v := .ref (a 3)) (C := RX1) (T := TX1) (N := 6) hx hb hts iw_X1 hown hK hP 0 rfl rfl 2 (by decide) (hts _ w_fl_X1_28) (fun _ h9 => h9) rfl dX1_workNumber_60 ?_
          refine lv_iload_n hx hb dX1_workNumber_63 rfl (lv_at hl 1 rfl) ?_
          refine ro_i (sX6_revisionOf O p1) (run_c (va_runV (As := [.int p1]) (rest := []) ⟨hx, hb, hml, hown, hts⟩ (c_X6_revisionOf l D cs a O p1) (cwV 1 hts (good_V w_ml_X1_95 w_im_X6_revisionOf w_se_X6_revisionOf w_in_X6 w_co_X6_revisionOf) rfl rfl rfl ⟨rfl, hd_X6_revisionOf⟩ ⟨Nat.le_of_ble_eq_true rfl, Nat.le_of_ble_eq_true rfl⟩) (pe_W (C := RX6) (T := TX6) (N := 5) (ci := 6) (q0 := 3) hP hE rfl rfl) rfl rfl hl.1 rfl (lv_room (Nat.le_of_ble_eq_true rfl)) dX1_workNumber_64 ⟨Nat.zero_le _, Nat.zero_le _⟩)) ?_
          exact W.iret (v := sX6_revisionOf O p1) hx hb hr (fun t ht hW => ⟨sX6_revisionOf O p1, rfl, hv, ht⟩) (fun _ h => nomatch h) dX1_workNumber_67 (hlocks := hlocks)
        · have hv := (if_neg c1_3).symm.trans hv
          have e0 : p2.toInt ≠ 0 := sw_ne c1_0
          have e1 : p2.toInt ≠ 1 := sw_ne c1_1
          have e2 : p2.toInt ≠ 2 := sw_ne c1_2
          have e3 : p2.toInt ≠ 3 := sw_ne c1_3
          refine lv_tableOut (tgt := 68) hx hb dX1_workNumber_1 (by omega) (by decide) ?_
          refine lv_aload_n hx hb dX1_workNumber_68 rfl (lv_at hl 0 rfl) ?_
          refine lv_iload_n hx hb dX1_workNumber_69 rfl (lv_at hl 1 rfl) ?_
          refine ro_i (b2i (sX1_isWrong O p1)) (run_c (va_runV (As := [.int p1]) (rest := []) ⟨hx, hb, hml, hown, hts⟩ (c_X1_isWrong l D cs a O p1) (cwV 1 hts (good_V w_ml_X1_105 w_im_X1_isWrong w_se_X1_isWrong w_in_X1 w_co_X1_isWrong) rfl rfl rfl ⟨rfl, hd_X1_isWrong⟩ ⟨Nat.le_of_ble_eq_true rfl, Nat.le_of_ble_eq_true rfl⟩) (pe_W (C := RX1) (T := TX1) (N := 6) (ci := 1) (q0 := 0) hP hE rfl rfl) rfl rfl hl.1 rfl (lv_room (Nat.le_of_ble_eq_true rfl)) dX1_workNumber_70 ⟨Nat.zero_le _, Nat.zero_le _⟩)) ?_
          refine join_i (J := 81) (ls := ls) (rest := []) (b2i (if (sX1_isWrong O p1) = true then true else false)) ?_ (fun hJ => ?_)
          · exact W.iret (v := b2i (if (sX1_isWrong O p1) = true then true else false)) hx hb hr (fun t ht hW => ⟨b2i (if (sX1_isWrong O p1) = true then true else false), rfl, hv, ht⟩) (fun _ h => nomatch h) dX1_workNumber_81 (hlocks := hlocks)
          · refine lv_if_eq (tgt := 80) hx hb dX1_workNumber_73 (by decide) (fun c73 => ?_) (fun c73 => ?_)
            · have c73 := b2i_f c73
              refine lv_iconst (v := 0) hx hb dX1_workNumber_80 (by decide) ?_
              exact hJ _ (congrArg b2i ((if_neg c73).trans rfl))
            · have c73 := b2i_t c73
              refine lv_iconst (v := 1) hx hb dX1_workNumber_76 (by decide) ?_
              refine lv_goto (tgt := 81) hx hb dX1_workNumber_77 (by decide) ?_
              exact hJ _ (congrArg b2i ((if_pos c73).trans rfl))
theorem hd_X1_costOfNext : yX1_costOfNext.cls ≠ "java/lang/invoke/MethodHandle" ∧ yX1_costOfNext.cls ≠ "java/lang/invoke/VarHandle" ∧ (parseMethodDescriptor yX1_costOfNext.desc).map (fun d => d.parameters.length) = some 1 := by decide +kernel
def LX1_costOfNext_4 (O : OF) (p1 : Int32) : Nat → Int32 → Int32 → Int32
  | 0 => fun _ _ => 0
  | n + 1 => fun x2 x3 => (if (sX3_size O) ≤ x3 then x2 * ((O.2 4) (2 : Int32).toNatClampNeg) else (LX1_costOfNext_4 O p1 n (x2 + (if (sX3_overdueDays O x3 ((O.1 5) + p1)) < p1 then (sX3_overdueDays O x3 ((O.1 5) + p1)) else p1)) (x3 + 1)))
theorem LX1_costOfNext_4_eq (O : OF) (p1 : Int32) (n : Nat) (x2 : Int32) (x3 : Int32) : LX1_costOfNext_4 O p1 (n + 1) x2 x3 = (if (sX3_size O) ≤ x3 then x2 * ((O.2 4) (2 : Int32).toNatClampNeg) else (LX1_costOfNext_4 O p1 n (x2 + (if (sX3_overdueDays O x3 ((O.1 5) + p1)) < p1 then (sX3_overdueDays O x3 ((O.1 5) + p1)) else p1)) (x3 + 1))) := rfl
def sX1_costOfNext (O : OF) (p1 : Int32) : Int32 := (LX1_costOfNext_4 O p1 (upM (sX3_size O) 0 + 1) 0 0)
set_option maxHeartbeats 4000000 in
set_option maxRecDepth 100000 in
theorem c_X1_costOfNext (l : Launch) (D : va_G) (cs : Nat → ClassId) (a : Nat → Nat) (O : OF) (p1 : Int32) : Met l yX1_costOfNext (wc yX1_costOfNext cX1_costOfNext 4 (some .int)) ({ frames := 4, cells := 0, slots := 0, locals := 85 } : Room) (va_Pc [.ref (a 0), .int p1] (PE D cs (ofW cs a O))) (vp_Si (fun r9 => r9 = (sX1_costOfNext O p1))) 0 0 (fun _ => False) := by
  obtain ⟨v, hv⟩ : ∃ v, sX1_costOfNext O p1 = v := ⟨_, rfl⟩
  rw [hv]
  refine met_o (lv := [(0, .ref (a 0)), (1, .int p1)]) (by decide) (Nat.le_of_ble_eq_true rfl) rfl ?_
  intro p e s m args below meth c ls hx hb hr hml hts hown hlocks hin hP hE hl
  have hown : s.vm.findClass RX1 = some m.cls := hown
  have hK := hE.1
  have hP : va_P D vwC (ofW cs a O) s.heap := hP
  unfold sX1_costOfNext at hv
  refine lv_iconst (v := 0) hx hb dX1_costOfNext_0 (by decide) ?_
  refine lv_istore_n (lv' := [(2, .int 0), (0, .ref (a 0)), (1, .int p1)]) hx hb dX1_costOfNext_1 rfl hl (by decide) rfl (fun ls hl => ?_)
  refine lv_iconst (v := 0) hx hb dX1_costOfNext_2 (by decide) ?_
  refine lv_istore_n (lv' := [(3, .int 0), (2, .int 0), (0, .ref (a 0)), (1, .int p1)]) hx hb dX1_costOfNext_3 rfl hl (by decide) rfl (fun ls hl => ?_)
  have LOOP : ∀ (n : Nat) (x2 : Int32) (x3 : Int32), upM (sX3_size O) x3 < n → LX1_costOfNext_4 O p1 n x2 x3 = v → ∀ ls : Array Slot, lv_has ls 4 [(0, .ref (a 0)), (1, .int p1), (2, .int x2), (3, .int x3)] → W p l e ({ frames := 4, cells := 0, slots := 0, locals := 85 } : Room) s m args below meth c s.heap [] 0 0 (MQ below (vp_Si (fun r9 => r9 = v)) args s 0 0 (fun _ => False)) (F0 m 4 ls []) := by
    clear hv
    intro n
    induction n with
    | zero => intro x2 x3 hm; exact absurd hm (Nat.not_lt_zero _)
    | succ n ih =>
      intro x2 x3 hm hv ls hl
      have hv := (LX1_costOfNext_4_eq O p1 n x2 x3).symm.trans hv
      refine lv_iload_n hx hb dX1_costOfNext_4 rfl (lv_at hl 3 rfl) ?_
      refine lv_aload_n hx hb dX1_costOfNext_5 rfl (lv_at hl 0 rfl) ?_
      refine va_get (D := D) (ci := 1) (v := .ref (a 2)) (C := RX1) (T := TX1) (N := 6) hx hb hts iw_X1 hown hK hP 0 rfl rfl 1 (by decide) (hts _ w_fl_X1_21) (fun _ h9 => h9) rfl dX1_costOfNext_6 ?_
      refine ro_i (sX3_size O) (run_c (va_runV (As := []) (rest := [.int x3]) ⟨hx, hb, hml, hown, hts⟩ (c_X3_size l D cs a O) (cwV 0 hts (good_V w_ml_X1_109 w_im_X3_size w_se_X3_size w_in_X3 w_co_X3_size) rfl rfl rfl ⟨rfl, hd_X3_size⟩ ⟨Nat.le_of_ble_eq_true rfl, Nat.le_of_ble_eq_true rfl⟩) (pe_W (C := RX3) (T := TX3) (N := 8) (ci := 3) (q0 := 2) hP hE rfl rfl) rfl rfl hl.1 rfl (lv_room (Nat.le_of_ble_eq_true rfl)) dX1_costOfNext_9 ⟨Nat.zero_le _, Nat.zero_le _⟩)) ?_
      refine lv_icmp_ge (tgt := 42) hx hb dX1_costOfNext_12 (by decide) (fun c12 => ?_) (fun c12 => ?_)
      · have hv := (if_pos c12).symm.trans hv
        refine lv_iload_n hx hb dX1_costOfNext_42 rfl (lv_at hl 2 rfl) ?_
        refine lv_aload_n hx hb dX1_costOfNext_43 rfl (lv_at hl 0 rfl) ?_
        refine va_get (D := D) (ci := 1) (v := .ref (a 4)) (C := RX1) (T := TX1) (N := 6) hx hb hts iw_X1 hown hK hP 0 rfl rfl 3 (by decide) (hts _ w_fl_X1_32) (fun _ h9 => h9) rfl dX1_costOfNext_44 ?_
        refine lv_iconst (v := 2) hx hb dX1_costOfNext_47 (by decide) ?_
        refine va_iald (cA := cs 0) (n := 3) (f := (O.2 4)) hx hb hK hP 4 0 rfl rfl (by unfold vp_in; decide) dX1_costOfNext_48 ?_
        refine lv_imul hx hb dX1_costOfNext_49 ?_
        exact W.iret (v := x2 * ((O.2 4) (2 : Int32).toNatClampNeg)) hx hb hr (fun t ht hW => ⟨x2 * ((O.2 4) (2 : Int32).toNatClampNeg), rfl, hv, ht⟩) (fun _ h => nomatch h) dX1_costOfNext_50 (hlocks := hlocks)
      · have hv := (if_neg c12).symm.trans hv
        refine lv_iload_n hx hb dX1_costOfNext_15 rfl (lv_at hl 2 rfl) ?_
        refine lv_iload_n hx hb dX1_costOfNext_16 rfl (lv_at hl 1 rfl) ?_
        refine lv_aload_n hx hb dX1_costOfNext_17 rfl (lv_at hl 0 rfl) ?_
        refine va_get (D := D) (ci := 1) (v := .ref (a 2)) (C := RX1) (T := TX1) (N := 6) hx hb hts iw_X1 hown hK hP 0 rfl rfl 1 (by decide) (hts _ w_fl_X1_21) (fun _ h9 => h9) rfl dX1_costOfNext_18 ?_
        refine lv_iload_n hx hb dX1_costOfNext_21 rfl (lv_at hl 3 rfl) ?_
        refine lv_aload_n hx hb dX1_costOfNext_22 rfl (lv_at hl 0 rfl) ?_
        refine va_get (D := D) (ci := 1) (v := .int (O.1 5)) (C := RX1) (T := TX1) (N := 6) hx hb hts iw_X1 hown hK hP 0 rfl rfl 4 (by decide) (hts _ w_fl_X1_42) (fun _ h9 => h9) rfl dX1_costOfNext_23 ?_
        refine lv_iload_n hx hb dX1_costOfNext_26 rfl (lv_at hl 1 rfl) ?_
        refine lv_iadd hx hb dX1_costOfNext_27 ?_
        refine ro_i (sX3_overdueDays O x3 ((O.1 5) + p1)) (run_c (va_runV (As := [.int x3, .int ((O.1 5) + p1)]) (rest := [.int p1, .int x2]) ⟨hx, hb, hml, hown, hts⟩ (c_X3_overdueDays l D cs a O x3 ((O.1 5) + p1)) (cwV 2 hts (good_V w_ml_X1_192 w_im_X3_overdueDays w_se_X3_overdueDays w_in_X3 w_co_X3_overdueDays) rfl rfl rfl ⟨rfl, hd_X3_overdueDays⟩ ⟨Nat.le_of_ble_eq_true rfl, Nat.le_of_ble_eq_true rfl⟩) (pe_W (C := RX3) (T := TX3) (N := 8) (ci := 3) (q0 := 2) hP hE rfl rfl) rfl rfl hl.1 rfl (lv_room (Nat.le_of_ble_eq_true rfl)) dX1_costOfNext_28 ⟨Nat.zero_le _, Nat.zero_le _⟩)) ?_
        refine va_mmin hx hb (by rw [hml, hl.1]) hown (hts _ w_ml_X1_215) (hts _ w_st_J9_min_7cf53) (hts _ w_in_J9) (hts _ w_co_J9_min_7cf53) (Nat.le_of_ble_eq_true rfl) (Nat.le_of_ble_eq_true rfl) (Nat.zero_le _) (Nat.zero_le _) dX1_costOfNext_31 ?_
        refine lv_iadd hx hb dX1_costOfNext_34 ?_
        refine lv_istore_n (lv' := [(2, .int (x2 + (if (sX3_overdueDays O x3 ((O.1 5) + p1)) < p1 then (sX3_overdueDays O x3 ((O.1 5) + p1)) else p1))), (0, .ref (a 0)), (1, .int p1), (3, .int x3)]) hx hb dX1_costOfNext_35 rfl hl (by decide) rfl (fun ls hl => ?_)
        refine lv_iinc (v := x3 + 1) (lv' := [(3, .int (x3 + 1)), (2, .int (x2 + (if (sX3_overdueDays O x3 ((O.1 5) + p1)) < p1 then (sX3_overdueDays O x3 ((O.1 5) + p1)) else p1))), (0, .ref (a 0)), (1, .int p1)]) hx hb dX1_costOfNext_36 hl (k := 3) rfl rfl (by decide) rfl (fun ls hl => ?_)
        refine lv_goto (tgt := 4) hx hb dX1_costOfNext_39 (by decide) ?_
        exact ih (x2 + (if (sX3_overdueDays O x3 ((O.1 5) + p1)) < p1 then (sX3_overdueDays O x3 ((O.1 5) + p1)) else p1)) (x3 + 1) (upM_s c12 hm) hv ls (lv_sub hl [2, 3, 1, 0] rfl)
  exact LOOP _ 0 0 (Nat.lt_succ_self _) hv ls (lv_sub hl [2, 3, 1, 0] rfl)
theorem hd_X1_firstTruePrint : yX1_firstTruePrint.cls ≠ "java/lang/invoke/MethodHandle" ∧ yX1_firstTruePrint.cls ≠ "java/lang/invoke/VarHandle" ∧ (parseMethodDescriptor yX1_firstTruePrint.desc).map (fun d => d.parameters.length) = some 2 := by decide +kernel
def LX1_firstTruePrint_2 (O : OF) (p1 : Int32) (p2 : Int32) : Nat → Int32 → Int32
  | 0 => fun _ => 0
  | n + 1 => fun x3 => (if (sX3_size O) ≤ x3 then (-1) else (if (sX3_siteOf O x3) = p1 then (if (sX3_sheetOf O x3) = p2 then (if (sX1_mayBuildBy O x3) = true then x3 else (LX1_firstTruePrint_2 O p1 p2 n (x3 + 1))) else (LX1_firstTruePrint_2 O p1 p2 n (x3 + 1))) else (LX1_firstTruePrint_2 O p1 p2 n (x3 + 1))))
theorem LX1_firstTruePrint_2_eq (O : OF) (p1 : Int32) (p2 : Int32) (n : Nat) (x3 : Int32) : LX1_firstTruePrint_2 O p1 p2 (n + 1) x3 = (if (sX3_size O) ≤ x3 then (-1) else (if (sX3_siteOf O x3) = p1 then (if (sX3_sheetOf O x3) = p2 then (if (sX1_mayBuildBy O x3) = true then x3 else (LX1_firstTruePrint_2 O p1 p2 n (x3 + 1))) else (LX1_firstTruePrint_2 O p1 p2 n (x3 + 1))) else (LX1_firstTruePrint_2 O p1 p2 n (x3 + 1)))) := rfl
def sX1_firstTruePrint (O : OF) (p1 : Int32) (p2 : Int32) : Int32 := (LX1_firstTruePrint_2 O p1 p2 (upM (sX3_size O) 0 + 1) 0)
set_option maxHeartbeats 4000000 in
set_option maxRecDepth 100000 in
theorem c_X1_firstTruePrint (l : Launch) (D : va_G) (cs : Nat → ClassId) (a : Nat → Nat) (O : OF) (p1 : Int32) (p2 : Int32) : Met l yX1_firstTruePrint (wc yX1_firstTruePrint cX1_firstTruePrint 4 (some .int)) ({ frames := 4, cells := 0, slots := 0, locals := 84 } : Room) (va_Pc [.ref (a 0), .int p1, .int p2] (PE D cs (ofW cs a O))) (vp_Si (fun r9 => r9 = (sX1_firstTruePrint O p1 p2))) 0 0 (fun _ => False) := by
  obtain ⟨v, hv⟩ : ∃ v, sX1_firstTruePrint O p1 p2 = v := ⟨_, rfl⟩
  rw [hv]
  refine met_o (lv := [(0, .ref (a 0)), (1, .int p1), (2, .int p2)]) (by decide) (Nat.le_of_ble_eq_true rfl) rfl ?_
  intro p e s m args below meth c ls hx hb hr hml hts hown hlocks hin hP hE hl
  have hown : s.vm.findClass RX1 = some m.cls := hown
  have hK := hE.1
  have hP : va_P D vwC (ofW cs a O) s.heap := hP
  unfold sX1_firstTruePrint at hv
  refine lv_iconst (v := 0) hx hb dX1_firstTruePrint_0 (by decide) ?_
  refine lv_istore_n (lv' := [(3, .int 0), (0, .ref (a 0)), (1, .int p1), (2, .int p2)]) hx hb dX1_firstTruePrint_1 rfl hl (by decide) rfl (fun ls hl => ?_)
  have LOOP : ∀ (n : Nat) (x3 : Int32), upM (sX3_size O) x3 < n → LX1_firstTruePrint_2 O p1 p2 n x3 = v → ∀ ls : Array Slot, lv_has ls 4 [(0, .ref (a 0)), (1, .int p1), (2, .int p2), (3, .int x3)] → W p l e ({ frames := 4, cells := 0, slots := 0, locals := 84 } : Room) s m args below meth c s.heap [] 0 0 (MQ below (vp_Si (fun r9 => r9 = v)) args s 0 0 (fun _ => False)) (F0 m 2 ls []) := by
    clear hv
    intro n
    induction n with
    | zero => intro x3 hm; exact absurd hm (Nat.not_lt_zero _)
    | succ n ih =>
      intro x3 hm hv ls hl
      have hv := (LX1_firstTruePrint_2_eq O p1 p2 n x3).symm.trans hv
      refine lv_iload_n hx hb dX1_firstTruePrint_2 rfl (lv_at hl 3 rfl) ?_
      refine lv_aload_n hx hb dX1_firstTruePrint_3 rfl (lv_at hl 0 rfl) ?_
      refine va_get (D := D) (ci := 1) (v := .ref (a 2)) (C := RX1) (T := TX1) (N := 6) hx hb hts iw_X1 hown hK hP 0 rfl rfl 1 (by decide) (hts _ w_fl_X1_21) (fun _ h9 => h9) rfl dX1_firstTruePrint_4 ?_
      refine ro_i (sX3_size O) (run_c (va_runV (As := []) (rest := [.int x3]) ⟨hx, hb, hml, hown, hts⟩ (c_X3_size l D cs a O) (cwV 0 hts (good_V w_ml_X1_109 w_im_X3_size w_se_X3_size w_in_X3 w_co_X3_size) rfl rfl rfl ⟨rfl, hd_X3_size⟩ ⟨Nat.le_of_ble_eq_true rfl, Nat.le_of_ble_eq_true rfl⟩) (pe_W (C := RX3) (T := TX3) (N := 8) (ci := 3) (q0 := 2) hP hE rfl rfl) rfl rfl hl.1 rfl (lv_room (Nat.le_of_ble_eq_true rfl)) dX1_firstTruePrint_7 ⟨Nat.zero_le _, Nat.zero_le _⟩)) ?_
      refine lv_icmp_ge (tgt := 53) hx hb dX1_firstTruePrint_10 (by decide) (fun c10 => ?_) (fun c10 => ?_)
      · have hv := (if_pos c10).symm.trans hv
        refine lv_iconst (v := (-1)) hx hb dX1_firstTruePrint_53 (by decide) ?_
        exact W.iret (v := (-1)) hx hb hr (fun t ht hW => ⟨(-1), rfl, hv, ht⟩) (fun _ h => nomatch h) dX1_firstTruePrint_54 (hlocks := hlocks)
      · have hv := (if_neg c10).symm.trans hv
        refine lv_aload_n hx hb dX1_firstTruePrint_13 rfl (lv_at hl 0 rfl) ?_
        refine va_get (D := D) (ci := 1) (v := .ref (a 2)) (C := RX1) (T := TX1) (N := 6) hx hb hts iw_X1 hown hK hP 0 rfl rfl 1 (by decide) (hts _ w_fl_X1_21) (fun _ h9 => h9) rfl dX1_firstTruePrint_14 ?_
        refine lv_iload_n hx hb dX1_firstTruePrint_17 rfl (lv_at hl 3 rfl) ?_
        refine ro_i (sX3_siteOf O x3) (run_c (va_runV (As := [.int x3]) (rest := []) ⟨hx, hb, hml, hown, hts⟩ (c_X3_siteOf l D cs a O x3) (cwV 1 hts (good_V w_ml_X1_142 w_im_X3_siteOf w_se_X3_siteOf w_in_X3 w_co_X3_siteOf) rfl rfl rfl ⟨rfl, hd_X3_siteOf⟩ ⟨Nat.le_of_ble_eq_true rfl, Nat.le_of_ble_eq_true rfl⟩) (pe_W (C := RX3) (T := TX3) (N := 8) (ci := 3) (q0 := 2) hP hE rfl rfl) rfl rfl hl.1 rfl (lv_room (Nat.le_of_ble_eq_true rfl)) dX1_firstTruePrint_18 ⟨Nat.zero_le _, Nat.zero_le _⟩)) ?_
        refine lv_iload_n hx hb dX1_firstTruePrint_21 rfl (lv_at hl 1 rfl) ?_
        refine lv_icmp_ne (tgt := 47) hx hb dX1_firstTruePrint_22 (by decide) (fun c22 => ?_) (fun c22 => ?_)
        · have hv := (if_neg c22).symm.trans hv
          refine lv_iinc (v := x3 + 1) (lv' := [(3, .int (x3 + 1)), (0, .ref (a 0)), (1, .int p1), (2, .int p2)]) hx hb dX1_firstTruePrint_47 hl (k := 3) rfl rfl (by decide) rfl (fun ls hl => ?_)
          refine lv_goto (tgt := 2) hx hb dX1_firstTruePrint_50 (by decide) ?_
          exact ih (x3 + 1) (upM_s c10 hm) hv ls (lv_sub hl [1, 2, 3, 0] rfl)
        · have hv := (if_pos c22).symm.trans hv
          refine lv_aload_n hx hb dX1_firstTruePrint_25 rfl (lv_at hl 0 rfl) ?_
          refine va_get (D := D) (ci := 1) (v := .ref (a 2)) (C := RX1) (T := TX1) (N := 6) hx hb hts iw_X1 hown hK hP 0 rfl rfl 1 (by decide) (hts _ w_fl_X1_21) (fun _ h9 => h9) rfl dX1_firstTruePrint_26 ?_
          refine lv_iload_n hx hb dX1_firstTruePrint_29 rfl (lv_at hl 3 rfl) ?_
          refine ro_i (sX3_sheetOf O x3) (run_c (va_runV (As := [.int x3]) (rest := []) ⟨hx, hb, hml, hown, hts⟩ (c_X3_sheetOf l D cs a O x3) (cwV 1 hts (good_V w_ml_X1_81 w_im_X3_sheetOf w_se_X3_sheetOf w_in_X3 w_co_X3_sheetOf) rfl rfl rfl ⟨rfl, hd_X3_sheetOf⟩ ⟨Nat.le_of_ble_eq_true rfl, Nat.le_of_ble_eq_true rfl⟩) (pe_W (C := RX3) (T := TX3) (N := 8) (ci := 3) (q0 := 2) hP hE rfl rfl) rfl rfl hl.1 rfl (lv_room (Nat.le_of_ble_eq_true rfl)) dX1_firstTruePrint_30 ⟨Nat.zero_le _, Nat.zero_le _⟩)) ?_
          refine lv_iload_n hx hb dX1_firstTruePrint_33 rfl (lv_at hl 2 rfl) ?_
          refine lv_icmp_ne (tgt := 47) hx hb dX1_firstTruePrint_34 (by decide) (fun c34 => ?_) (fun c34 => ?_)
          · have hv := (if_neg c34).symm.trans hv
            refine lv_iinc (v := x3 + 1) (lv' := [(3, .int (x3 + 1)), (0, .ref (a 0)), (1, .int p1), (2, .int p2)]) hx hb dX1_firstTruePrint_47 hl (k := 3) rfl rfl (by decide) rfl (fun ls hl => ?_)
            refine lv_goto (tgt := 2) hx hb dX1_firstTruePrint_50 (by decide) ?_
            exact ih (x3 + 1) (upM_s c10 hm) hv ls (lv_sub hl [1, 2, 3, 0] rfl)
          · have hv := (if_pos c34).symm.trans hv
            refine lv_aload_n hx hb dX1_firstTruePrint_37 rfl (lv_at hl 0 rfl) ?_
            refine lv_iload_n hx hb dX1_firstTruePrint_38 rfl (lv_at hl 3 rfl) ?_
            refine ro_i (b2i (sX1_mayBuildBy O x3)) (run_c (va_runV (As := [.int x3]) (rest := []) ⟨hx, hb, hml, hown, hts⟩ (c_X1_mayBuildBy l D cs a O x3) (cwV 1 hts (good_V w_ml_X1_152 w_im_X1_mayBuildBy w_se_X1_mayBuildBy w_in_X1 w_co_X1_mayBuildBy) rfl rfl rfl ⟨rfl, hd_X1_mayBuildBy⟩ ⟨Nat.le_of_ble_eq_true rfl, Nat.le_of_ble_eq_true rfl⟩) (pe_W (C := RX1) (T := TX1) (N := 6) (ci := 1) (q0 := 0) hP hE rfl rfl) rfl rfl hl.1 rfl (lv_room (Nat.le_of_ble_eq_true rfl)) dX1_firstTruePrint_39 ⟨Nat.zero_le _, Nat.zero_le _⟩)) ?_
            refine lv_if_eq (tgt := 47) hx hb dX1_firstTruePrint_42 (by decide) (fun c42 => ?_) (fun c42 => ?_)
            · have c42 := b2i_f c42
              have hv := (if_neg c42).symm.trans hv
              refine lv_iinc (v := x3 + 1) (lv' := [(3, .int (x3 + 1)), (0, .ref (a 0)), (1, .int p1), (2, .int p2)]) hx hb dX1_firstTruePrint_47 hl (k := 3) rfl rfl (by decide) rfl (fun ls hl => ?_)
              refine lv_goto (tgt := 2) hx hb dX1_firstTruePrint_50 (by decide) ?_
              exact ih (x3 + 1) (upM_s c10 hm) hv ls (lv_sub hl [1, 2, 3, 0] rfl)
            · have c42 := b2i_t c42
              have hv := (if_pos c42).symm.trans hv
              refine lv_iload_n hx hb dX1_firstTruePrint_45 rfl (lv_at hl 3 rfl) ?_
              exact W.iret (v := x3) hx hb hr (fun t ht hW => ⟨x3, rfl, hv, ht⟩) (fun _ h => nomatch h) dX1_firstTruePrint_46 (hlocks := hlocks)
  exact LOOP _ 0 (Nat.lt_succ_self _) hv ls (lv_sub hl [1, 2, 3, 0] rfl)
theorem hd_X1_worksMadeWrong : yX1_worksMadeWrong.cls ≠ "java/lang/invoke/MethodHandle" ∧ yX1_worksMadeWrong.cls ≠ "java/lang/invoke/VarHandle" ∧ (parseMethodDescriptor yX1_worksMadeWrong.desc).map (fun d => d.parameters.length) = some 2 := by decide +kernel
def LX1_worksMadeWrong_5 (O : OF) (p1 : Int32) (p2 : Int32) : Nat → Int32 → Int32 → Int32
  | 0 => fun _ _ => 0
  | n + 1 => fun x3 x4 => (if (sX6_size O) ≤ x4 then x3 else (if (sX6_sheetOf O x4) = p1 then (if (sX7_isIn p2 (sX6_fieldOf O x4)) = true then (if (sX1_isWrong O x4) = true then (LX1_worksMadeWrong_5 O p1 p2 n x3 (x4 + 1)) else (LX1_worksMadeWrong_5 O p1 p2 n (x3 + 1) (x4 + 1))) else (LX1_worksMadeWrong_5 O p1 p2 n x3 (x4 + 1))) else (LX1_worksMadeWrong_5 O p1 p2 n x3 (x4 + 1))))
theorem LX1_worksMadeWrong_5_eq (O : OF) (p1 : Int32) (p2 : Int32) (n : Nat) (x3 : Int32) (x4 : Int32) : LX1_worksMadeWrong_5 O p1 p2 (n + 1) x3 x4 = (if (sX6_size O) ≤ x4 then x3 else (if (sX6_sheetOf O x4) = p1 then (if (sX7_isIn p2 (sX6_fieldOf O x4)) = true then (if (sX1_isWrong O x4) = true then (LX1_worksMadeWrong_5 O p1 p2 n x3 (x4 + 1)) else (LX1_worksMadeWrong_5 O p1 p2 n (x3 + 1) (x4 + 1))) else (LX1_worksMadeWrong_5 O p1 p2 n x3 (x4 + 1))) else (LX1_worksMadeWrong_5 O p1 p2 n x3 (x4 + 1)))) := rfl
def sX1_worksMadeWrong (O : OF) (p1 : Int32) (p2 : Int32) : Int32 := (LX1_worksMadeWrong_5 O p1 p2 (upM (sX6_size O) 0 + 1) 0 0)
set_option maxHeartbeats 4000000 in
set_option maxRecDepth 100000 in
theorem c_X1_worksMadeWrong (l : Launch) (D : va_G) (cs : Nat → ClassId) (a : Nat → Nat) (O : OF) (p1 : Int32) (p2 : Int32) : Met l yX1_worksMadeWrong (wc yX1_worksMadeWrong cX1_worksMadeWrong 5 (some .int)) ({ frames := 3, cells := 0, slots := 0, locals := 64 } : Room) (va_Pc [.ref (a 0), .int p1, .int p2] (PE D cs (ofW cs a O))) (vp_Si (fun r9 => r9 = (sX1_worksMadeWrong O p1 p2))) 0 0 (fun _ => False) := by
  obtain ⟨v, hv⟩ : ∃ v, sX1_worksMadeWrong O p1 p2 = v := ⟨_, rfl⟩
  rw [hv]
  refine met_o (lv := [(0, .ref (a 0)), (1, .int p1), (2, .int p2)]) (by decide) (Nat.le_of_ble_eq_true rfl) rfl ?_
  intro p e s m args below meth c ls hx hb hr hml hts hown hlocks hin hP hE hl
  have hown : s.vm.findClass RX1 = some m.cls := hown
  have hK := hE.1
  have hP : va_P D vwC (ofW cs a O) s.heap := hP
  unfold sX1_worksMadeWrong at hv
  refine lv_iconst (v := 0) hx hb dX1_worksMadeWrong_0 (by decide) ?_
  refine lv_istore_n (lv' := [(3, .int 0), (0, .ref (a 0)), (1, .int p1), (2, .int p2)]) hx hb dX1_worksMadeWrong_1 rfl hl (by decide) rfl (fun ls hl => ?_)
  refine lv_iconst (v := 0) hx hb dX1_worksMadeWrong_2 (by decide) ?_
  refine lv_istore (lv' := [(4, .int 0), (3, .int 0), (0, .ref (a 0)), (1, .int p1), (2, .int p2)]) hx hb dX1_worksMadeWrong_3 hl (by decide) rfl (fun ls hl => ?_)
  have LOOP : ∀ (n : Nat) (x3 : Int32) (x4 : Int32), upM (sX6_size O) x4 < n → LX1_worksMadeWrong_5 O p1 p2 n x3 x4 = v → ∀ ls : Array Slot, lv_has ls 5 [(0, .ref (a 0)), (1, .int p1), (2, .int p2), (3, .int x3), (4, .int x4)] → W p l e ({ frames := 3, cells := 0, slots := 0, locals := 64 } : Room) s m args below meth c s.heap [] 0 0 (MQ below (vp_Si (fun r9 => r9 = v)) args s 0 0 (fun _ => False)) (F0 m 5 ls []) := by
    clear hv
    intro n
    induction n with
    | zero => intro x3 x4 hm; exact absurd hm (Nat.not_lt_zero _)
    | succ n ih =>
      intro x3 x4 hm hv ls hl
      have hv := (LX1_worksMadeWrong_5_eq O p1 p2 n x3 x4).symm.trans hv
      refine lv_iload hx hb dX1_worksMadeWrong_5 (lv_at hl 4 rfl) ?_
      refine lv_aload_n hx hb dX1_worksMadeWrong_7 rfl (lv_at hl 0 rfl) ?_
      refine va_get (D := D) (ci := 1) (v := .ref (a 3)) (C := RX1) (T := TX1) (N := 6) hx hb hts iw_X1 hown hK hP 0 rfl rfl 2 (by decide) (hts _ w_fl_X1_28) (fun _ h9 => h9) rfl dX1_worksMadeWrong_8 ?_
      refine ro_i (sX6_size O) (run_c (va_runV (As := []) (rest := [.int x4]) ⟨hx, hb, hml, hown, hts⟩ (c_X6_size l D cs a O) (cwV 0 hts (good_V w_ml_X1_98 w_im_X6_size w_se_X6_size w_in_X6 w_co_X6_size) rfl rfl rfl ⟨rfl, hd_X6_size⟩ ⟨Nat.le_of_ble_eq_true rfl, Nat.le_of_ble_eq_true rfl⟩) (pe_W (C := RX6) (T := TX6) (N := 5) (ci := 6) (q0 := 3) hP hE rfl rfl) rfl rfl hl.1 rfl (lv_room (Nat.le_of_ble_eq_true rfl)) dX1_worksMadeWrong_11 ⟨Nat.zero_le _, Nat.zero_le _⟩)) ?_
      refine lv_icmp_ge (tgt := 64) hx hb dX1_worksMadeWrong_14 (by decide) (fun c14 => ?_) (fun c14 => ?_)
      · have hv := (if_pos c14).symm.trans hv
        refine lv_iload_n hx hb dX1_worksMadeWrong_64 rfl (lv_at hl 3 rfl) ?_
        exact W.iret (v := x3) hx hb hr (fun t ht hW => ⟨x3, rfl, hv, ht⟩) (fun _ h => nomatch h) dX1_worksMadeWrong_65 (hlocks := hlocks)
      · have hv := (if_neg c14).symm.trans hv
        refine lv_aload_n hx hb dX1_worksMadeWrong_17 rfl (lv_at hl 0 rfl) ?_
        refine va_get (D := D) (ci := 1) (v := .ref (a 3)) (C := RX1) (T := TX1) (N := 6) hx hb hts iw_X1 hown hK hP 0 rfl rfl 2 (by decide) (hts _ w_fl_X1_28) (fun _ h9 => h9) rfl dX1_worksMadeWrong_18 ?_
        refine lv_iload hx hb dX1_worksMadeWrong_21 (lv_at hl 4 rfl) ?_
        refine ro_i (sX6_sheetOf O x4) (run_c (va_runV (As := [.int x4]) (rest := []) ⟨hx, hb, hml, hown, hts⟩ (c_X6_sheetOf l D cs a O x4) (cwV 1 hts (good_V w_ml_X1_87 w_im_X6_sheetOf w_se_X6_sheetOf w_in_X6 w_co_X6_sheetOf) rfl rfl rfl ⟨rfl, hd_X6_sheetOf⟩ ⟨Nat.le_of_ble_eq_true rfl, Nat.le_of_ble_eq_true rfl⟩) (pe_W (C := RX6) (T := TX6) (N := 5) (ci := 6) (q0 := 3) hP hE rfl rfl) rfl rfl hl.1 rfl (lv_room (Nat.le_of_ble_eq_true rfl)) dX1_worksMadeWrong_23 ⟨Nat.zero_le _, Nat.zero_le _⟩)) ?_
        refine lv_iload_n hx hb dX1_worksMadeWrong_26 rfl (lv_at hl 1 rfl) ?_
        refine lv_icmp_ne (tgt := 58) hx hb dX1_worksMadeWrong_27 (by decide) (fun c27 => ?_) (fun c27 => ?_)
        · have hv := (if_neg c27).symm.trans hv
          refine lv_iinc (v := x4 + 1) (lv' := [(4, .int (x4 + 1)), (0, .ref (a 0)), (1, .int p1), (2, .int p2), (3, .int x3)]) hx hb dX1_worksMadeWrong_58 hl (k := 4) rfl rfl (by decide) rfl (fun ls hl => ?_)
          refine lv_goto (tgt := 5) hx hb dX1_worksMadeWrong_61 (by decide) ?_
          exact ih x3 (x4 + 1) (upM_s c14 hm) hv ls (lv_sub hl [1, 2, 3, 4, 0] rfl)
        · have hv := (if_pos c27).symm.trans hv
          refine lv_iload_n hx hb dX1_worksMadeWrong_30 rfl (lv_at hl 2 rfl) ?_
          refine lv_aload_n hx hb dX1_worksMadeWrong_31 rfl (lv_at hl 0 rfl) ?_
          refine va_get (D := D) (ci := 1) (v := .ref (a 3)) (C := RX1) (T := TX1) (N := 6) hx hb hts iw_X1 hown hK hP 0 rfl rfl 2 (by decide) (hts _ w_fl_X1_28) (fun _ h9 => h9) rfl dX1_worksMadeWrong_32 ?_
          refine lv_iload hx hb dX1_worksMadeWrong_35 (lv_at hl 4 rfl) ?_
          refine ro_i (sX6_fieldOf O x4) (run_c (va_runV (As := [.int x4]) (rest := [.int p2]) ⟨hx, hb, hml, hown, hts⟩ (c_X6_fieldOf l D cs a O x4) (cwV 1 hts (good_V w_ml_X1_88 w_im_X6_fieldOf w_se_X6_fieldOf w_in_X6 w_co_X6_fieldOf) rfl rfl rfl ⟨rfl, hd_X6_fieldOf⟩ ⟨Nat.le_of_ble_eq_true rfl, Nat.le_of_ble_eq_true rfl⟩) (pe_W (C := RX6) (T := TX6) (N := 5) (ci := 6) (q0 := 3) hP hE rfl rfl) rfl rfl hl.1 rfl (lv_room (Nat.le_of_ble_eq_true rfl)) dX1_worksMadeWrong_37 ⟨Nat.zero_le _, Nat.zero_le _⟩)) ?_
          refine ro_i (b2i (sX7_isIn p2 (sX6_fieldOf O x4))) (run_c (va_runSN (As := [.int p2, .int (sX6_fieldOf O x4)]) (rest := []) ⟨hx, hb, hml, hown, hts⟩ (c_X7_isIn l D cs p2 (sX6_fieldOf O x4)) ⟨va_cnB 2 hts (good_code w_co_X7_isIn) rfl rfl rfl (hE.2.1 ("TrueSheets$Office", 220, yX7_isIn) (List.mem_of_getElem? (i := 7) rfl)) (hts _ w_in_X7) hd_X7_isIn ⟨Nat.le_of_ble_eq_true rfl, Nat.le_of_ble_eq_true rfl⟩, hts _ w_st_X7_isIn, trivial⟩ (pe_S (p_nil D _) hE) rfl rfl hl.1 rfl (lv_room (Nat.le_of_ble_eq_true rfl)) dX1_worksMadeWrong_40 ⟨Nat.zero_le _, Nat.zero_le _⟩)) ?_
          refine lv_if_eq (tgt := 58) hx hb dX1_worksMadeWrong_43 (by decide) (fun c43 => ?_) (fun c43 => ?_)
          · have c43 := b2i_f c43
            have hv := (if_neg c43).symm.trans hv
            refine lv_iinc (v := x4 + 1) (lv' := [(4, .int (x4 + 1)), (0, .ref (a 0)), (1, .int p1), (2, .int p2), (3, .int x3)]) hx hb dX1_worksMadeWrong_58 hl (k := 4) rfl rfl (by decide) rfl (fun ls hl => ?_)
            refine lv_goto (tgt := 5) hx hb dX1_worksMadeWrong_61 (by decide) ?_
            exact ih x3 (x4 + 1) (upM_s c14 hm) hv ls (lv_sub hl [1, 2, 3, 4, 0] rfl)
          · have c43 := b2i_t c43
            have hv := (if_pos c43).symm.trans hv
            refine lv_aload_n hx hb dX1_worksMadeWrong_46 rfl (lv_at hl 0 rfl) ?_
            refine lv_iload hx hb dX1_worksMadeWrong_47 (lv_at hl 4 rfl) ?_
            refine ro_i (b2i (sX1_isWrong O x4)) (run_c (va_runV (As := [.int x4]) (rest := []) ⟨hx, hb, hml, hown, hts⟩ (c_X1_isWrong l D cs a O x4) (cwV 1 hts (good_V w_ml_X1_105 w_im_X1_isWrong w_se_X1_isWrong w_in_X1 w_co_X1_isWrong) rfl rfl rfl ⟨rfl, hd_X1_isWrong⟩ ⟨Nat.le_of_ble_eq_true rfl, Nat.le_of_ble_eq_true rfl⟩) (pe_W (C := RX1) (T := TX1) (N := 6) (ci := 1) (q0 := 0) hP hE rfl rfl) rfl rfl hl.1 rfl (lv_room (Nat.le_of_ble_eq_true rfl)) dX1_worksMadeWrong_49 ⟨Nat.zero_le _, Nat.zero_le _⟩)) ?_
            refine lv_if_ne (tgt := 58) hx hb dX1_worksMadeWrong_52 (by decide) (fun c52 => ?_) (fun c52 => ?_)
            · have c52 := b2i_t c52
              have hv := (if_pos c52).symm.trans hv
              refine lv_iinc (v := x4 + 1) (lv' := [(4, .int (x4 + 1)), (0, .ref (a 0)), (1, .int p1), (2, .int p2), (3, .int x3)]) hx hb dX1_worksMadeWrong_58 hl (k := 4) rfl rfl (by decide) rfl (fun ls hl => ?_)
              refine lv_goto (tgt := 5) hx hb dX1_worksMadeWrong_61 (by decide) ?_
              exact ih x3 (x4 + 1) (upM_s c14 hm) hv ls (lv_sub hl [1, 2, 3, 4, 0] rfl)
            · have c52 := b2i_f c52
              have hv := (if_neg c52).symm.trans hv
              refine lv_iinc (v := x3 + 1) (lv' := [(3, .int (x3 + 1)), (0, .ref (a 0)), (1, .int p1), (2, .int p2), (4, .int x4)]) hx hb dX1_worksMadeWrong_55 hl (k := 3) rfl rfl (by decide) rfl (fun ls hl => ?_)
              refine lv_iinc (v := x4 + 1) (lv' := [(4, .int (x4 + 1)), (3, .int (x3 + 1)), (0, .ref (a 0)), (1, .int p1), (2, .int p2)]) hx hb dX1_worksMadeWrong_58 hl (k := 4) rfl rfl (by decide) rfl (fun ls hl => ?_)
              refine lv_goto (tgt := 5) hx hb dX1_worksMadeWrong_61 (by decide) ?_
              exact ih (x3 + 1) (x4 + 1) (upM_s c14 hm) hv ls (lv_sub hl [2, 3, 4, 1, 0] rfl)
  exact LOOP _ 0 0 (Nat.lt_succ_self _) hv ls (lv_sub hl [2, 3, 4, 1, 0] rfl)
theorem hd_X1_sitesWithTruePrint : yX1_sitesWithTruePrint.cls ≠ "java/lang/invoke/MethodHandle" ∧ yX1_sitesWithTruePrint.cls ≠ "java/lang/invoke/VarHandle" ∧ (parseMethodDescriptor yX1_sitesWithTruePrint.desc).map (fun d => d.parameters.length) = some 1 := by decide +kernel
def LX1_sitesWithTruePrint_4 (O : OF) (p1 : Int32) : Nat → Int32 → Int32 → Int32
  | 0 => fun _ _ => 0
  | n + 1 => fun x2 x3 => (if 4 ≤ x3 then x2 else (if (sX1_firstTruePrint O x3 p1) = (-1) then (LX1_sitesWithTruePrint_4 O p1 n x2 (x3 + 1)) else (LX1_sitesWithTruePrint_4 O p1 n (x2 + 1) (x3 + 1))))
theorem LX1_sitesWithTruePrint_4_eq (O : OF) (p1 : Int32) (n : Nat) (x2 : Int32) (x3 : Int32) : LX1_sitesWithTruePrint_4 O p1 (n + 1) x2 x3 = (if 4 ≤ x3 then x2 else (if (sX1_firstTruePrint O x3 p1) = (-1) then (LX1_sitesWithTruePrint_4 O p1 n x2 (x3 + 1)) else (LX1_sitesWithTruePrint_4 O p1 n (x2 + 1) (x3 + 1)))) := rfl
def sX1_sitesWithTruePrint (O : OF) (p1 : Int32) : Int32 := (LX1_sitesWithTruePrint_4 O p1 (upM 4 0 + 1) 0 0)
set_option maxHeartbeats 4000000 in
set_option maxRecDepth 100000 in
theorem c_X1_sitesWithTruePrint (l : Launch) (D : va_G) (cs : Nat → ClassId) (a : Nat → Nat) (O : OF) (p1 : Int32) : Met l yX1_sitesWithTruePrint (wc yX1_sitesWithTruePrint cX1_sitesWithTruePrint 4 (some .int)) ({ frames := 5, cells := 0, slots := 0, locals := 107 } : Room) (va_Pc [.ref (a 0), .int p1] (PE D cs (ofW cs a O))) (vp_Si (fun r9 => r9 = (sX1_sitesWithTruePrint O p1))) 0 0 (fun _ => False) := by
  obtain ⟨v, hv⟩ : ∃ v, sX1_sitesWithTruePrint O p1 = v := ⟨_, rfl⟩
  rw [hv]
  refine met_o (lv := [(0, .ref (a 0)), (1, .int p1)]) (by decide) (Nat.le_of_ble_eq_true rfl) rfl ?_
  intro p e s m args below meth c ls hx hb hr hml hts hown hlocks hin hP hE hl
  have hown : s.vm.findClass RX1 = some m.cls := hown
  have hK := hE.1
  have hP : va_P D vwC (ofW cs a O) s.heap := hP
  unfold sX1_sitesWithTruePrint at hv
  refine lv_iconst (v := 0) hx hb dX1_sitesWithTruePrint_0 (by decide) ?_
  refine lv_istore_n (lv' := [(2, .int 0), (0, .ref (a 0)), (1, .int p1)]) hx hb dX1_sitesWithTruePrint_1 rfl hl (by decide) rfl (fun ls hl => ?_)
  refine lv_iconst (v := 0) hx hb dX1_sitesWithTruePrint_2 (by decide) ?_
  refine lv_istore_n (lv' := [(3, .int 0), (2, .int 0), (0, .ref (a 0)), (1, .int p1)]) hx hb dX1_sitesWithTruePrint_3 rfl hl (by decide) rfl (fun ls hl => ?_)
  have LOOP : ∀ (n : Nat) (x2 : Int32) (x3 : Int32), upM 4 x3 < n → LX1_sitesWithTruePrint_4 O p1 n x2 x3 = v → ∀ ls : Array Slot, lv_has ls 4 [(0, .ref (a 0)), (1, .int p1), (2, .int x2), (3, .int x3)] → W p l e ({ frames := 5, cells := 0, slots := 0, locals := 107 } : Room) s m args below meth c s.heap [] 0 0 (MQ below (vp_Si (fun r9 => r9 = v)) args s 0 0 (fun _ => False)) (F0 m 4 ls []) := by
    clear hv
    intro n
    induction n with
    | zero => intro x2 x3 hm; exact absurd hm (Nat.not_lt_zero _)
    | succ n ih =>
      intro x2 x3 hm hv ls hl
      have hv := (LX1_sitesWithTruePrint_4_eq O p1 n x2 x3).symm.trans hv
      refine lv_iload_n hx hb dX1_sitesWithTruePrint_4 rfl (lv_at hl 3 rfl) ?_
      refine lv_iconst (v := 4) hx hb dX1_sitesWithTruePrint_5 (by decide) ?_
      refine lv_icmp_ge (tgt := 28) hx hb dX1_sitesWithTruePrint_6 (by decide) (fun c6 => ?_) (fun c6 => ?_)
      · have hv := (if_pos c6).symm.trans hv
        refine lv_iload_n hx hb dX1_sitesWithTruePrint_28 rfl (lv_at hl 2 rfl) ?_
        exact W.iret (v := x2) hx hb hr (fun t ht hW => ⟨x2, rfl, hv, ht⟩) (fun _ h => nomatch h) dX1_sitesWithTruePrint_29 (hlocks := hlocks)
      · have hv := (if_neg c6).symm.trans hv
        refine lv_aload_n hx hb dX1_sitesWithTruePrint_9 rfl (lv_at hl 0 rfl) ?_
        refine lv_iload_n hx hb dX1_sitesWithTruePrint_10 rfl (lv_at hl 3 rfl) ?_
        refine lv_iload_n hx hb dX1_sitesWithTruePrint_11 rfl (lv_at hl 1 rfl) ?_
        refine ro_i (sX1_firstTruePrint O x3 p1) (run_c (va_runV (As := [.int x3, .int p1]) (rest := []) ⟨hx, hb, hml, hown, hts⟩ (c_X1_firstTruePrint l D cs a O x3 p1) (cwV 2 hts (good_V w_ml_X1_224 w_im_X1_firstTruePrint w_se_X1_firstTruePrint w_in_X1 w_co_X1_firstTruePrint) rfl rfl rfl ⟨rfl, hd_X1_firstTruePrint⟩ ⟨Nat.le_of_ble_eq_true rfl, Nat.le_of_ble_eq_true rfl⟩) (pe_W (C := RX1) (T := TX1) (N := 6) (ci := 1) (q0 := 0) hP hE rfl rfl) rfl rfl hl.1 rfl (lv_room (Nat.le_of_ble_eq_true rfl)) dX1_sitesWithTruePrint_12 ⟨Nat.zero_le _, Nat.zero_le _⟩)) ?_
        refine lv_iconst (v := (-1)) hx hb dX1_sitesWithTruePrint_15 (by decide) ?_
        refine lv_icmp_eq (tgt := 22) hx hb dX1_sitesWithTruePrint_16 (by decide) (fun c16 => ?_) (fun c16 => ?_)
        · have hv := (if_pos c16).symm.trans hv
          refine lv_iinc (v := x3 + 1) (lv' := [(3, .int (x3 + 1)), (0, .ref (a 0)), (1, .int p1), (2, .int x2)]) hx hb dX1_sitesWithTruePrint_22 hl (k := 3) rfl rfl (by decide) rfl (fun ls hl => ?_)
          refine lv_goto (tgt := 4) hx hb dX1_sitesWithTruePrint_25 (by decide) ?_
          exact ih x2 (x3 + 1) (upM_s c6 hm) hv ls (lv_sub hl [1, 2, 3, 0] rfl)
        · have hv := (if_neg c16).symm.trans hv
          refine lv_iinc (v := x2 + 1) (lv' := [(2, .int (x2 + 1)), (0, .ref (a 0)), (1, .int p1), (3, .int x3)]) hx hb dX1_sitesWithTruePrint_19 hl (k := 2) rfl rfl (by decide) rfl (fun ls hl => ?_)
          refine lv_iinc (v := x3 + 1) (lv' := [(3, .int (x3 + 1)), (2, .int (x2 + 1)), (0, .ref (a 0)), (1, .int p1)]) hx hb dX1_sitesWithTruePrint_22 hl (k := 3) rfl rfl (by decide) rfl (fun ls hl => ?_)
          refine lv_goto (tgt := 4) hx hb dX1_sitesWithTruePrint_25 (by decide) ?_
          exact ih (x2 + 1) (x3 + 1) (upM_s c6 hm) hv ls (lv_sub hl [2, 3, 1, 0] rfl)
  exact LOOP _ 0 0 (Nat.lt_succ_self _) hv ls (lv_sub hl [2, 3, 1, 0] rfl)
theorem hd_X1_worstSite : yX1_worstSite.cls ≠ "java/lang/invoke/MethodHandle" ∧ yX1_worstSite.cls ≠ "java/lang/invoke/VarHandle" ∧ (parseMethodDescriptor yX1_worstSite.desc).map (fun d => d.parameters.length) = some 0 := by decide +kernel
def LX1_worstSite_25 (O : OF) : Nat → Int32 → Int32 → Int32 → Int32 → Int32
  | 0 => fun _ _ _ _ => 0
  | n + 1 => fun x1 x2 x3 x4 => (if 4 ≤ x4 then x1 else (if x2 < (sX3_overdueCount O x4 (O.1 5)) then (LX1_worstSite_25 O n x4 (sX3_overdueCount O x4 (O.1 5)) (sX1_wrongWorks O x4 (-1)) (x4 + 1)) else (if (sX3_overdueCount O x4 (O.1 5)) = x2 then (if (sX1_wrongWorks O x4 (-1)) ≤ x3 then (LX1_worstSite_25 O n x1 x2 x3 (x4 + 1)) else (LX1_worstSite_25 O n x4 (sX3_overdueCount O x4 (O.1 5)) (sX1_wrongWorks O x4 (-1)) (x4 + 1))) else (LX1_worstSite_25 O n x1 x2 x3 (x4 + 1)))))
theorem LX1_worstSite_25_eq (O : OF) (n : Nat) (x1 : Int32) (x2 : Int32) (x3 : Int32) (x4 : Int32) : LX1_worstSite_25 O (n + 1) x1 x2 x3 x4 = (if 4 ≤ x4 then x1 else (if x2 < (sX3_overdueCount O x4 (O.1 5)) then (LX1_worstSite_25 O n x4 (sX3_overdueCount O x4 (O.1 5)) (sX1_wrongWorks O x4 (-1)) (x4 + 1)) else (if (sX3_overdueCount O x4 (O.1 5)) = x2 then (if (sX1_wrongWorks O x4 (-1)) ≤ x3 then (LX1_worstSite_25 O n x1 x2 x3 (x4 + 1)) else (LX1_worstSite_25 O n x4 (sX3_overdueCount O x4 (O.1 5)) (sX1_wrongWorks O x4 (-1)) (x4 + 1))) else (LX1_worstSite_25 O n x1 x2 x3 (x4 + 1))))) := rfl
def sX1_worstSite (O : OF) : Int32 := (LX1_worstSite_25 O (upM 4 1 + 1) 0 (sX3_overdueCount O 0 (O.1 5)) (sX1_wrongWorks O 0 (-1)) 1)
set_option maxHeartbeats 4000000 in
set_option maxRecDepth 100000 in
theorem c_X1_worstSite (l : Launch) (D : va_G) (cs : Nat → ClassId) (a : Nat → Nat) (O : OF) : Met l yX1_worstSite (wc yX1_worstSite cX1_worstSite 7 (some .int)) ({ frames := 5, cells := 0, slots := 0, locals := 109 } : Room) (va_Pc [.ref (a 0)] (PE D cs (ofW cs a O))) (vp_Si (fun r9 => r9 = (sX1_worstSite O))) 0 0 (fun _ => False) := by
  obtain ⟨v, hv⟩ : ∃ v, sX1_worstSite O = v := ⟨_, rfl⟩
  rw [hv]
  refine met_o (lv := [(0, .ref (a 0))]) (by decide) (Nat.le_of_ble_eq_true rfl) rfl ?_
  intro p e s m args below meth c ls hx hb hr hml hts hown hlocks hin hP hE hl
  have hown : s.vm.findClass RX1 = some m.cls := hown
  have hK := hE.1
  have hP : va_P D vwC (ofW cs a O) s.heap := hP
  unfold sX1_worstSite at hv
  refine lv_iconst (v := 0) hx hb dX1_worstSite_0 (by decide) ?_
  refine lv_istore_n (lv' := [(1, .int 0), (0, .ref (a 0))]) hx hb dX1_worstSite_1 rfl hl (by decide) rfl (fun ls hl => ?_)
  refine lv_aload_n hx hb dX1_worstSite_2 rfl (lv_at hl 1 rfl) ?_
  refine va_get (D := D) (ci := 1) (v := .ref (a 2)) (C := RX1) (T := TX1) (N := 6) hx hb hts iw_X1 hown hK hP 0 rfl rfl 1 (by decide) (hts _ w_fl_X1_21) (fun _ h9 => h9) rfl dX1_worstSite_3 ?_
  refine lv_iconst (v := 0) hx hb dX1_worstSite_6 (by decide) ?_
  refine lv_aload_n hx hb dX1_worstSite_7 rfl (lv_at hl 1 rfl) ?_
  refine va_get (D := D) (ci := 1) (v := .int (O.1 5)) (C := RX1) (T := TX1) (N := 6) hx hb hts iw_X1 hown hK hP 0 rfl rfl 4 (by decide) (hts _ w_fl_X1_42) (fun _ h9 => h9) rfl dX1_worstSite_8 ?_
  refine ro_i (sX3_overdueCount O 0 (O.1 5)) (run_c (va_runV (As := [.int 0, .int (O.1 5)]) (rest := []) ⟨hx, hb, hml, hown, hts⟩ (c_X3_overdueCount l D cs a O 0 (O.1 5)) (cwV 2 hts (good_V w_ml_X1_116 w_im_X3_overdueCount w_se_X3_overdueCount w_in_X3 w_co_X3_overdueCount) rfl rfl rfl ⟨rfl, hd_X3_overdueCount⟩ ⟨Nat.le_of_ble_eq_true rfl, Nat.le_of_ble_eq_true rfl⟩) (pe_W (C := RX3) (T := TX3) (N := 8) (ci := 3) (q0 := 2) hP hE rfl rfl) rfl rfl hl.1 rfl (lv_room (Nat.le_of_ble_eq_true rfl)) dX1_worstSite_11 ⟨Nat.zero_le _, Nat.zero_le _⟩)) ?_
  refine lv_istore_n (lv' := [(2, .int (sX3_overdueCount O 0 (O.1 5))), (1, .int 0), (0, .ref (a 0))]) hx hb dX1_worstSite_14 rfl hl (by decide) rfl (fun ls hl => ?_)
  refine lv_aload_n hx hb dX1_worstSite_15 rfl (lv_at hl 2 rfl) ?_
  refine lv_iconst (v := 0) hx hb dX1_worstSite_16 (by decide) ?_
  refine lv_iconst (v := (-1)) hx hb dX1_worstSite_17 (by decide) ?_
  refine ro_i (sX1_wrongWorks O 0 (-1)) (run_c (va_runV (As := [.int 0, .int (-1)]) (rest := []) ⟨hx, hb, hml, hown, hts⟩ (c_X1_wrongWorks l D cs a O 0 (-1)) (cwV 2 hts (good_V w_ml_X1_119 w_im_X1_wrongWorks w_se_X1_wrongWorks w_in_X1 w_co_X1_wrongWorks) rfl rfl rfl ⟨rfl, hd_X1_wrongWorks⟩ ⟨Nat.le_of_ble_eq_true rfl, Nat.le_of_ble_eq_true rfl⟩) (pe_W (C := RX1) (T := TX1) (N := 6) (ci := 1) (q0 := 0) hP hE rfl rfl) rfl rfl hl.1 rfl (lv_room (Nat.le_of_ble_eq_true rfl)) dX1_worstSite_18 ⟨Nat.zero_le _, Nat.zero_le _⟩)) ?_
  refine lv_istore_n (lv' := [(3, .int (sX1_wrongWorks O 0 (-1))), (2, .int (sX3_overdueCount O 0 (O.1 5))), (1, .int 0), (0, .ref (a 0))]) hx hb dX1_worstSite_21 rfl hl (by decide) rfl (fun ls hl => ?_)
  refine lv_iconst (v := 1) hx hb dX1_worstSite_22 (by decide) ?_
  refine lv_istore (lv' := [(4, .int 1), (3, .int (sX1_wrongWorks O 0 (-1))), (2, .int (sX3_overdueCount O 0 (O.1 5))), (1, .int 0), (0, .ref (a 0))]) hx hb dX1_worstSite_23 hl (by decide) rfl (fun ls hl => ?_)
  have LOOP : ∀ (n : Nat) (x1 : Int32) (x2 : Int32) (x3 : Int32) (x4 : Int32), upM 4 x4 < n → LX1_worstSite_25 O n x1 x2 x3 x4 = v → ∀ ls : Array Slot, lv_has ls 7 [(0, .ref (a 0)), (1, .int x1), (2, .int x2), (3, .int x3), (4, .int x4)] → W p l e ({ frames := 5, cells := 0, slots := 0, locals := 109 } : Room) s m args below meth c s.heap [] 0 0 (MQ below (vp_Si (fun r9 => r9 = v)) args s 0 0 (fun _ => False)) (F0 m 25 ls []) := by
    clear hv
    intro n
    induction n with
    | zero => intro x1 x2 x3 x4 hm; exact absurd hm (Nat.not_lt_zero _)
    | succ n ih =>
      intro x1 x2 x3 x4 hm hv ls hl
      have hv := (LX1_worstSite_25_eq O n x1 x2 x3 x4).symm.trans hv
      refine lv_iload hx hb dX1_worstSite_25 (lv_at hl 4 rfl) ?_
      refine lv_iconst (v := 4) hx hb dX1_worstSite_27 (by decide) ?_
      refine lv_icmp_ge (tgt := 88) hx hb dX1_worstSite_28 (by decide) (fun c28 => ?_) (fun c28 => ?_)
      · have hv := (if_pos c28).symm.trans hv
        refine lv_iload_n hx hb dX1_worstSite_88 rfl (lv_at hl 1 rfl) ?_
        exact W.iret (v := x1) hx hb hr (fun t ht hW => ⟨x1, rfl, hv, ht⟩) (fun _ h => nomatch h) dX1_worstSite_89 (hlocks := hlocks)
      · have hv := (if_neg c28).symm.trans hv
        refine lv_aload_n hx hb dX1_worstSite_31 rfl (lv_at hl 0 rfl) ?_
        refine va_get (D := D) (ci := 1) (v := .ref (a 2)) (C := RX1) (T := TX1) (N := 6) hx hb hts iw_X1 hown hK hP 0 rfl rfl 1 (by decide) (hts _ w_fl_X1_21) (fun _ h9 => h9) rfl dX1_worstSite_32 ?_
        refine lv_iload hx hb dX1_worstSite_35 (lv_at hl 4 rfl) ?_
        refine lv_aload_n hx hb dX1_worstSite_37 rfl (lv_at hl 0 rfl) ?_
        refine va_get (D := D) (ci := 1) (v := .int (O.1 5)) (C := RX1) (T := TX1) (N := 6) hx hb hts iw_X1 hown hK hP 0 rfl rfl 4 (by decide) (hts _ w_fl_X1_42) (fun _ h9 => h9) rfl dX1_worstSite_38 ?_
        refine ro_i (sX3_overdueCount O x4 (O.1 5)) (run_c (va_runV (As := [.int x4, .int (O.1 5)]) (rest := []) ⟨hx, hb, hml, hown, hts⟩ (c_X3_overdueCount l D cs a O x4 (O.1 5)) (cwV 2 hts (good_V w_ml_X1_116 w_im_X3_overdueCount w_se_X3_overdueCount w_in_X3 w_co_X3_overdueCount) rfl rfl rfl ⟨rfl, hd_X3_overdueCount⟩ ⟨Nat.le_of_ble_eq_true rfl, Nat.le_of_ble_eq_true rfl⟩) (pe_W (C := RX3) (T := TX3) (N := 8) (ci := 3) (q0 := 2) hP hE rfl rfl) rfl rfl hl.1 rfl (lv_room (Nat.le_of_ble_eq_true rfl)) dX1_worstSite_41 ⟨Nat.zero_le _, Nat.zero_le _⟩)) ?_
        refine lv_istore (lv' := [(5, .int (sX3_overdueCount O x4 (O.1 5))), (0, .ref (a 0)), (1, .int x1), (2, .int x2), (3, .int x3), (4, .int x4)]) hx hb dX1_worstSite_44 hl (by decide) rfl (fun ls hl => ?_)
        refine lv_aload_n hx hb dX1_worstSite_46 rfl (lv_at hl 1 rfl) ?_
        refine lv_iload hx hb dX1_worstSite_47 (lv_at hl 5 rfl) ?_
        refine lv_iconst (v := (-1)) hx hb dX1_worstSite_49 (by decide) ?_
        refine ro_i (sX1_wrongWorks O x4 (-1)) (run_c (va_runV (As := [.int x4, .int (-1)]) (rest := []) ⟨hx, hb, hml, hown, hts⟩ (c_X1_wrongWorks l D cs a O x4 (-1)) (cwV 2 hts (good_V w_ml_X1_119 w_im_X1_wrongWorks w_se_X1_wrongWorks w_in_X1 w_co_X1_wrongWorks) rfl rfl rfl ⟨rfl, hd_X1_wrongWorks⟩ ⟨Nat.le_of_ble_eq_true rfl, Nat.le_of_ble_eq_true rfl⟩) (pe_W (C := RX1) (T := TX1) (N := 6) (ci := 1) (q0 := 0) hP hE rfl rfl) rfl rfl hl.1 rfl (lv_room (Nat.le_of_ble_eq_true rfl)) dX1_worstSite_50 ⟨Nat.zero_le _, Nat.zero_le _⟩)) ?_
        refine lv_istore (lv' := [(6, .int (sX1_wrongWorks O x4 (-1))), (5, .int (sX3_overdueCount O x4 (O.1 5))), (0, .ref (a 0)), (1, .int x1), (2, .int x2), (3, .int x3), (4, .int x4)]) hx hb dX1_worstSite_53 hl (by decide) rfl (fun ls hl => ?_)
        refine lv_iload hx hb dX1_worstSite_55 (lv_at hl 1 rfl) ?_
        refine lv_iload_n hx hb dX1_worstSite_57 rfl (lv_at hl 4 rfl) ?_
        refine lv_icmp_gt (tgt := 73) hx hb dX1_worstSite_58 (by decide) (fun c58 => ?_) (fun c58 => ?_)
        · have hv := (if_pos c58).symm.trans hv
          refine lv_iload hx hb dX1_worstSite_73 (lv_at hl 6 rfl) ?_
          refine lv_istore_n (lv' := [(1, .int x4), (6, .int (sX1_wrongWorks O x4 (-1))), (5, .int (sX3_overdueCount O x4 (O.1 5))), (0, .ref (a 0)), (2, .int x2), (3, .int x3), (4, .int x4)]) hx hb dX1_worstSite_75 rfl hl (by decide) rfl (fun ls hl => ?_)
          refine lv_iload hx hb dX1_worstSite_76 (lv_at hl 2 rfl) ?_
          refine lv_istore_n (lv' := [(2, .int (sX3_overdueCount O x4 (O.1 5))), (1, .int x4), (6, .int (sX1_wrongWorks O x4 (-1))), (5, .int (sX3_overdueCount O x4 (O.1 5))), (0, .ref (a 0)), (3, .int x3), (4, .int x4)]) hx hb dX1_worstSite_78 rfl hl (by decide) rfl (fun ls hl => ?_)
          refine lv_iload hx hb dX1_worstSite_79 (lv_at hl 2 rfl) ?_
          refine lv_istore_n (lv' := [(3, .int (sX1_wrongWorks O x4 (-1))), (2, .int (sX3_overdueCount O x4 (O.1 5))), (1, .int x4), (6, .int (sX1_wrongWorks O x4 (-1))), (5, .int (sX3_overdueCount O x4 (O.1 5))), (0, .ref (a 0)), (4, .int x4)]) hx hb dX1_worstSite_81 rfl hl (by decide) rfl (fun ls hl => ?_)
          refine lv_iinc (v := x4 + 1) (lv' := [(4, .int (x4 + 1)), (3, .int (sX1_wrongWorks O x4 (-1))), (2, .int (sX3_overdueCount O x4 (O.1 5))), (1, .int x4), (6, .int (sX1_wrongWorks O x4 (-1))), (5, .int (sX3_overdueCount O x4 (O.1 5))), (0, .ref (a 0))]) hx hb dX1_worstSite_82 hl (k := 6) rfl rfl (by decide) rfl (fun ls hl => ?_)
          refine lv_goto (tgt := 25) hx hb dX1_worstSite_85 (by decide) ?_
          exact ih x4 (sX3_overdueCount O x4 (O.1 5)) (sX1_wrongWorks O x4 (-1)) (x4 + 1) (upM_s c28 hm) hv ls (lv_sub hl [6, 3, 2, 1, 0] rfl)
        · have hv := (if_neg c58).symm.trans hv
          refine lv_iload hx hb dX1_worstSite_61 (lv_at hl 1 rfl) ?_
          refine lv_iload_n hx hb dX1_worstSite_63 rfl (lv_at hl 4 rfl) ?_
          refine lv_icmp_ne (tgt := 82) hx hb dX1_worstSite_64 (by decide) (fun c64 => ?_) (fun c64 => ?_)
          · have hv := (if_neg c64).symm.trans hv
            refine lv_iinc (v := x4 + 1) (lv' := [(4, .int (x4 + 1)), (6, .int (sX1_wrongWorks O x4 (-1))), (5, .int (sX3_overdueCount O x4 (O.1 5))), (0, .ref (a 0)), (1, .int x1), (2, .int x2), (3, .int x3)]) hx hb dX1_worstSite_82 hl (k := 6) rfl rfl (by decide) rfl (fun ls hl => ?_)
            refine lv_goto (tgt := 25) hx hb dX1_worstSite_85 (by decide) ?_
            exact ih x1 x2 x3 (x4 + 1) (upM_s c28 hm) hv ls (lv_sub hl [3, 4, 5, 6, 0] rfl)
          · have hv := (if_pos c64).symm.trans hv
            refine lv_iload hx hb dX1_worstSite_67 (lv_at hl 0 rfl) ?_
            refine lv_iload_n hx hb dX1_worstSite_69 rfl (lv_at hl 5 rfl) ?_
            refine lv_icmp_le (tgt := 82) hx hb dX1_worstSite_70 (by decide) (fun c70 => ?_) (fun c70 => ?_)
            · have hv := (if_pos c70).symm.trans hv
              refine lv_iinc (v := x4 + 1) (lv' := [(4, .int (x4 + 1)), (6, .int (sX1_wrongWorks O x4 (-1))), (5, .int (sX3_overdueCount O x4 (O.1 5))), (0, .ref (a 0)), (1, .int x1), (2, .int x2), (3, .int x3)]) hx hb dX1_worstSite_82 hl (k := 6) rfl rfl (by decide) rfl (fun ls hl => ?_)
              refine lv_goto (tgt := 25) hx hb dX1_worstSite_85 (by decide) ?_
              exact ih x1 x2 x3 (x4 + 1) (upM_s c28 hm) hv ls (lv_sub hl [3, 4, 5, 6, 0] rfl)
            · have hv := (if_neg c70).symm.trans hv
              refine lv_iload hx hb dX1_worstSite_73 (lv_at hl 6 rfl) ?_
              refine lv_istore_n (lv' := [(1, .int x4), (6, .int (sX1_wrongWorks O x4 (-1))), (5, .int (sX3_overdueCount O x4 (O.1 5))), (0, .ref (a 0)), (2, .int x2), (3, .int x3), (4, .int x4)]) hx hb dX1_worstSite_75 rfl hl (by decide) rfl (fun ls hl => ?_)
              refine lv_iload hx hb dX1_worstSite_76 (lv_at hl 2 rfl) ?_
              refine lv_istore_n (lv' := [(2, .int (sX3_overdueCount O x4 (O.1 5))), (1, .int x4), (6, .int (sX1_wrongWorks O x4 (-1))), (5, .int (sX3_overdueCount O x4 (O.1 5))), (0, .ref (a 0)), (3, .int x3), (4, .int x4)]) hx hb dX1_worstSite_78 rfl hl (by decide) rfl (fun ls hl => ?_)
              refine lv_iload hx hb dX1_worstSite_79 (lv_at hl 2 rfl) ?_
              refine lv_istore_n (lv' := [(3, .int (sX1_wrongWorks O x4 (-1))), (2, .int (sX3_overdueCount O x4 (O.1 5))), (1, .int x4), (6, .int (sX1_wrongWorks O x4 (-1))), (5, .int (sX3_overdueCount O x4 (O.1 5))), (0, .ref (a 0)), (4, .int x4)]) hx hb dX1_worstSite_81 rfl hl (by decide) rfl (fun ls hl => ?_)
              refine lv_iinc (v := x4 + 1) (lv' := [(4, .int (x4 + 1)), (3, .int (sX1_wrongWorks O x4 (-1))), (2, .int (sX3_overdueCount O x4 (O.1 5))), (1, .int x4), (6, .int (sX1_wrongWorks O x4 (-1))), (5, .int (sX3_overdueCount O x4 (O.1 5))), (0, .ref (a 0))]) hx hb dX1_worstSite_82 hl (k := 6) rfl rfl (by decide) rfl (fun ls hl => ?_)
              refine lv_goto (tgt := 25) hx hb dX1_worstSite_85 (by decide) ?_
              exact ih x4 (sX3_overdueCount O x4 (O.1 5)) (sX1_wrongWorks O x4 (-1)) (x4 + 1) (upM_s c28 hm) hv ls (lv_sub hl [6, 3, 2, 1, 0] rfl)
  exact LOOP _ 0 (sX3_overdueCount O 0 (O.1 5)) (sX1_wrongWorks O 0 (-1)) 1 (Nat.lt_succ_self _) hv ls (lv_sub hl [4, 3, 2, 1, 0] rfl)
