theorem hd_X7_needSheet : yX7_needSheet.cls ≠ "java/lang/invoke/MethodHandle" ∧ yX7_needSheet.cls ≠ "java/lang/invoke/VarHandle" ∧ (parseMethodDescriptor yX7_needSheet.desc).map (fun d => d.parameters.length) = some 1 := by decide +kernel
def sX7_needSheet (Os : Nat → OF) (T : OF) (p1 : Int32) : Nat := (if (sX4_has (Os 0) p1) = true then 0 else 3)
set_option maxHeartbeats 4000000 in
set_option maxRecDepth 100000 in
theorem c_X7_needSheet (l : Launch) (D : va_G) (cs : Nat → ClassId) (z : Nat → Nat) (A : Nat → Nat → Nat) (adK adV : Nat → Nat) (Os : Nat → OF) (T : OF) (p1 : Int32) (hd : tD z A) (hlst : l.stackTraces = false) : vx_Met l yX7_needSheet (wc yX7_needSheet cX7_needSheet 2 none) ({ frames := 6, cells := 1, slots := 6, locals := 82 } : Room) (va_Pc [.ref (z 0), .int p1] (TE D cs z A adK adV Os T)) (xnQ D cs z A Os T (sX7_needSheet Os T p1)) (xnX D cs z A Os T (sX7_needSheet Os T p1)) 1 6 (tA z A) := by
  obtain ⟨v, hv⟩ : ∃ v, sX7_needSheet Os T p1 = v := ⟨_, rfl⟩
  rw [hv]
  refine met_x (lv := [(0, .ref (z 0)), (1, .int p1)]) (by decide) (Nat.le_of_ble_eq_true rfl) rfl ?_
  intro p e s m args below meth c ls hx hb hr hml hts hown hlocks hout hB0 hl
  obtain ⟨⟨hT, hE⟩, hXE⟩ := hB0
  have hown : s.vm.findClass RX7 = some m.cls := hown
  have hK := hE.1
  have hS : va_S (tA z A) s.heap s.heap [] := va_S.rf
  unfold sX7_needSheet at hv
  refine lv_aload_n hx hb dX7_needSheet_0 rfl (lv_at hl 0 rfl) ?_
  refine va_get (D := D) (ci := 7) (v := .ref (A 0 0)) (C := RX7) (T := TX7) (N := 5) hx hb hts iw_X7 hown hK hT.1 0 rfl rfl 1 (by decide) (hts _ w_fl_X7_19) (fun _ h9 => h9) rfl dX7_needSheet_1 ?_
  refine va_getN (D := D) (ci := 1) (v := .ref (A 0 1)) (C := RX1) (T := TX1) (N := 6) hx hb hts iw_X1 hown hK (hT.2 0 (by decide)) 0 rfl rfl 0 (by decide) (va_Nw.use rfl (hE.2.2 (105, "sheets", "LTrueSheets$Sheets;") (List.mem_of_getElem? (i := 0) rfl))) (fun _ h9 => h9) rfl dX7_needSheet_4 ?_
  refine lv_iload_n hx hb dX7_needSheet_7 rfl (lv_at hl 1 rfl) ?_
  refine ro_i (b2i (sX4_has (Os 0) p1)) (run_c (va_runV (As := [.int p1]) (rest := []) ⟨hx, hb, hml, hown, hts⟩ (c_X4_has l D cs (A 0) (Os 0) p1) (cwV 1 hts (good_V w_ml_X7_312 w_im_X4_has w_se_X4_has w_in_X4 w_co_X4_has) rfl rfl rfl ⟨rfl, hd_X4_has⟩ ⟨Nat.le_of_ble_eq_true rfl, Nat.le_of_ble_eq_true rfl⟩) (pe_W (C := RX4) (T := TX4) (N := 5) (ci := 4) (q0 := 1) (hT.2 0 (by decide)) hE rfl rfl) rfl rfl hl.1 rfl (lv_room (Nat.le_of_ble_eq_true rfl)) dX7_needSheet_8 ⟨Nat.le_of_ble_eq_true rfl, Nat.le_of_ble_eq_true rfl⟩)) ?_
  refine lv_if_ne (tgt := 25) hx hb dX7_needSheet_11 (by decide) (fun c11 => ?_) (fun c11 => ?_)
  · have c11 := b2i_t c11
    have hv := (if_pos c11).symm.trans hv
    refine W.widen (k := 1) (n := 6) (Nat.le_of_ble_eq_true rfl) (Nat.le_of_ble_eq_true rfl) ?_
    refine vx_ret ?_
    exact W.vret hx hb hr (fun t ht hW => ⟨⟨(), rfl, hv.symm, tw ht hT⟩, hS.F ht⟩) hS.2.2 dX7_needSheet_25 (hlocks := hlocks)
  · have c11 := b2i_f c11
    have hv := (if_neg c11).symm.trans hv
    obtain ⟨sa, hsa⟩ := hXE.2.2.2.2 (313, "no such sheet") (List.mem_of_getElem? (i := 23) rfl)
    exact thr_3w hx hb hlst hown hts hXE hsa hS (by rw [hml]; exact hl.1) dX7_needSheet_14 dX7_needSheet_17 dX7_needSheet_18 dX7_needSheet_21 dX7_needSheet_24 hout (Nat.le_of_ble_eq_true rfl) (Nat.le_of_ble_eq_true rfl) (Nat.le_of_ble_eq_true rfl) (Nat.le_of_ble_eq_true rfl) hlocks (xc_n (k := 3) (by decide) hv hT hS) hS.2.2 (Nat.le_of_ble_eq_true rfl) (Nat.le_of_ble_eq_true rfl)
theorem hd_X7_keptAnswer : yX7_keptAnswer.cls ≠ "java/lang/invoke/MethodHandle" ∧ yX7_keptAnswer.cls ≠ "java/lang/invoke/VarHandle" ∧ (parseMethodDescriptor yX7_keptAnswer.desc).map (fun d => d.parameters.length) = some 1 := by decide +kernel
def sX7_keptAnswer (Os : Nat → OF) (T : OF) (p1 : Int32) : Nat × Int32 × TSt := (if p1 = (-2) then (3, 0, (Os, T)) else (if p1 = (-3) then (1, 0, (Os, T)) else (if p1 = (-4) then (2, 0, (Os, T)) else (0, p1, (Os, (sX0_rememberHeld T))))))
set_option maxHeartbeats 4000000 in
set_option maxRecDepth 100000 in
theorem c_X7_keptAnswer (l : Launch) (D : va_G) (cs : Nat → ClassId) (z : Nat → Nat) (A : Nat → Nat → Nat) (adK adV : Nat → Nat) (Os : Nat → OF) (T : OF) (p1 : Int32) (hd : tD z A) (hlst : l.stackTraces = false) : vx_Met l yX7_keptAnswer (wc yX7_keptAnswer cX7_keptAnswer 2 (some .int)) ({ frames := 6, cells := 1, slots := 6, locals := 82 } : Room) (va_Pc [.ref (z 0), .int p1] (TE D cs z A adK adV Os T)) (xwQ D cs z A (sX7_keptAnswer Os T p1)) (xwX D cs z A (sX7_keptAnswer Os T p1)) 1 6 (tA z A) := by
  obtain ⟨v, hv⟩ : ∃ v, sX7_keptAnswer Os T p1 = v := ⟨_, rfl⟩
  rw [hv]
  refine met_x (lv := [(0, .ref (z 0)), (1, .int p1)]) (by decide) (Nat.le_of_ble_eq_true rfl) rfl ?_
  intro p e s m args below meth c ls hx hb hr hml hts hown hlocks hout hB0 hl
  obtain ⟨⟨hT, hE⟩, hXE⟩ := hB0
  have hown : s.vm.findClass RX7 = some m.cls := hown
  have hK := hE.1
  have hS : va_S (tA z A) s.heap s.heap [] := va_S.rf
  unfold sX7_keptAnswer at hv
  refine lv_iload_n hx hb dX7_keptAnswer_0 rfl (lv_at hl 1 rfl) ?_
  refine lv_bipush (v := (-2)) hx hb dX7_keptAnswer_1 (by decide) ?_
  refine lv_icmp_ne (tgt := 17) hx hb dX7_keptAnswer_3 (by decide) (fun c3 => ?_) (fun c3 => ?_)
  · have hv := (if_neg c3).symm.trans hv
    refine lv_iload_n hx hb dX7_keptAnswer_17 rfl (lv_at hl 1 rfl) ?_
    refine lv_bipush (v := (-3)) hx hb dX7_keptAnswer_18 (by decide) ?_
    refine lv_icmp_ne (tgt := 34) hx hb dX7_keptAnswer_20 (by decide) (fun c20 => ?_) (fun c20 => ?_)
    · have hv := (if_neg c20).symm.trans hv
      refine lv_iload_n hx hb dX7_keptAnswer_34 rfl (lv_at hl 1 rfl) ?_
      refine lv_bipush (v := (-4)) hx hb dX7_keptAnswer_35 (by decide) ?_
      refine lv_icmp_ne (tgt := 51) hx hb dX7_keptAnswer_37 (by decide) (fun c37 => ?_) (fun c37 => ?_)
      · have hv := (if_neg c37).symm.trans hv
        refine lv_aload_n hx hb dX7_keptAnswer_51 rfl (lv_at hl 0 rfl) ?_
        refine va_get (D := D) (ci := 7) (v := .ref (z 6)) (C := RX7) (T := TX7) (N := 5) hx hb hts iw_X7 hown hK hT.1 0 rfl rfl 3 (by decide) (hts _ w_fl_X7_29) (fun _ h9 => h9) rfl dX7_keptAnswer_52 ?_
        refine w_v (sX0_rememberHeld T) (va_runV (As := []) (rest := []) ⟨hx, hb, hml, hown, hts⟩ (c_X0_rememberHeld l D cs z A T hd) (cwV 0 hts (good_V w_ml_X7_321 w_im_X0_rememberHeld w_se_X0_rememberHeld w_in_X0 w_co_X0_rememberHeld) rfl rfl rfl ⟨rfl, hd_X0_rememberHeld⟩ ⟨Nat.le_of_ble_eq_true rfl, Nat.le_of_ble_eq_true rfl⟩) (pe_W (C := RX0) (T := TX0) (N := 3) (ci := 0) (q0 := 6) hT.1 hE rfl rfl) rfl rfl hl.1 rfl (lv_room (Nat.le_of_ble_eq_true rfl)) dX7_keptAnswer_55 ⟨Nat.le_of_ble_eq_true rfl, Nat.le_of_ble_eq_true rfl⟩) hS (fun _ _ h => Or.inl h) (fun _ h => Or.inl h) (fun t locs hB hz hk hS => ?_)
        have hT : tsP D cs z A Os (sX0_rememberHeld T) t.heap := t_z hd hT hk hB
        refine lv_iload_n hx hb dX7_keptAnswer_58 rfl (lv_at hl 1 rfl) ?_
        refine W.widen (k := 1) (n := 6) (Nat.le_of_ble_eq_true rfl) (Nat.le_of_ble_eq_true rfl) ?_
        refine vx_ret ?_
        exact W.iret (v := p1) hx hb hr (fun t ht hW => ⟨⟨p1, (Os, (sX0_rememberHeld T)), rfl, xw_eq hv, tw ht hT⟩, hS.F ht⟩) hS.2.2 dX7_keptAnswer_59 (hlocks := hlocks)
      · have hv := (if_pos c37).symm.trans hv
        obtain ⟨sa, hsa⟩ := hXE.2.2.2.2 (319, "this can't be done now") (List.mem_of_getElem? (i := 26) rfl)
        exact thr_2w hx hb hlst hown hts hXE hsa hS (by rw [hml]; exact hl.1) dX7_keptAnswer_40 dX7_keptAnswer_43 dX7_keptAnswer_44 dX7_keptAnswer_47 dX7_keptAnswer_50 hout (Nat.le_of_ble_eq_true rfl) (Nat.le_of_ble_eq_true rfl) (Nat.le_of_ble_eq_true rfl) (Nat.le_of_ble_eq_true rfl) hlocks (xc_w (k := 2) (by decide) hv hT hS) hS.2.2 (Nat.le_of_ble_eq_true rfl) (Nat.le_of_ble_eq_true rfl)
    · have hv := (if_pos c20).symm.trans hv
      obtain ⟨sa, hsa⟩ := hXE.2.2.2.2 (317, "an argument is out of its range") (List.mem_of_getElem? (i := 25) rfl)
      exact thr_1w hx hb hlst hown hts hXE hsa hS (by rw [hml]; exact hl.1) dX7_keptAnswer_23 dX7_keptAnswer_26 dX7_keptAnswer_27 dX7_keptAnswer_30 dX7_keptAnswer_33 hout (Nat.le_of_ble_eq_true rfl) (Nat.le_of_ble_eq_true rfl) (Nat.le_of_ble_eq_true rfl) (Nat.le_of_ble_eq_true rfl) hlocks (xc_w (k := 1) (by decide) hv hT hS) hS.2.2 (Nat.le_of_ble_eq_true rfl) (Nat.le_of_ble_eq_true rfl)
  · have hv := (if_pos c3).symm.trans hv
    obtain ⟨sa, hsa⟩ := hXE.2.2.2.2 (315, "no such sheet, field, print, work, site or hand") (List.mem_of_getElem? (i := 24) rfl)
    exact thr_3w hx hb hlst hown hts hXE hsa hS (by rw [hml]; exact hl.1) dX7_keptAnswer_6 dX7_keptAnswer_9 dX7_keptAnswer_10 dX7_keptAnswer_13 dX7_keptAnswer_16 hout (Nat.le_of_ble_eq_true rfl) (Nat.le_of_ble_eq_true rfl) (Nat.le_of_ble_eq_true rfl) (Nat.le_of_ble_eq_true rfl) hlocks (xc_w (k := 3) (by decide) hv hT hS) hS.2.2 (Nat.le_of_ble_eq_true rfl) (Nat.le_of_ble_eq_true rfl)
theorem hd_X7_append : yX7_append.cls ≠ "java/lang/invoke/MethodHandle" ∧ yX7_append.cls ≠ "java/lang/invoke/VarHandle" ∧ (parseMethodDescriptor yX7_append.desc).map (fun d => d.parameters.length) = some 1 := by decide +kernel
def sX7_append (Os : Nat → OF) (T : OF) (p1 : Int32) : Nat × Int32 × TSt := (if p1 < 0 then (1, 0, (Os, T)) else (if p1 ≤ 255 then (if (sX2_isFull T) = true then (2, 0, (Os, T)) else (0, (sX2_add T ((p1.toUInt32 % 65536).toInt32)).1, (Os, ((sX2_add T ((p1.toUInt32 % 65536).toInt32)).2)))) else (1, 0, (Os, T))))
set_option maxHeartbeats 4000000 in
set_option maxRecDepth 100000 in
theorem c_X7_append (l : Launch) (D : va_G) (cs : Nat → ClassId) (z : Nat → Nat) (A : Nat → Nat → Nat) (adK adV : Nat → Nat) (Os : Nat → OF) (T : OF) (p1 : Int32) (hd : tD z A) (hlst : l.stackTraces = false) : vx_Met l yX7_append (wc yX7_append cX7_append 2 (some .int)) ({ frames := 6, cells := 1, slots := 6, locals := 82 } : Room) (va_Pc [.ref (z 0), .int p1] (TE D cs z A adK adV Os T)) (xwQ D cs z A (sX7_append Os T p1)) (xwX D cs z A (sX7_append Os T p1)) 1 6 (tA z A) := by
  obtain ⟨v, hv⟩ : ∃ v, sX7_append Os T p1 = v := ⟨_, rfl⟩
  rw [hv]
  refine met_x (lv := [(0, .ref (z 0)), (1, .int p1)]) (by decide) (Nat.le_of_ble_eq_true rfl) rfl ?_
  intro p e s m args below meth c ls hx hb hr hml hts hown hlocks hout hB0 hl
  obtain ⟨⟨hT, hE⟩, hXE⟩ := hB0
  have hown : s.vm.findClass RX7 = some m.cls := hown
  have hK := hE.1
  have hS : va_S (tA z A) s.heap s.heap [] := va_S.rf
  unfold sX7_append at hv
  refine lv_iload_n hx hb dX7_append_0 rfl (lv_at hl 1 rfl) ?_
  refine lv_if_lt (tgt := 11) hx hb dX7_append_1 (by decide) (fun c1 => ?_) (fun c1 => ?_)
  · have hv := (if_pos c1).symm.trans hv
    obtain ⟨sa, hsa⟩ := hXE.2.2.2.2 (42, "a character code is 0 to 255") (List.mem_of_getElem? (i := 0) rfl)
    exact thr_1 hx hb hlst hown hts hXE hsa hS (by rw [hml]; exact hl.1) dX7_append_11 dX7_append_14 dX7_append_15 dX7_append_17 dX7_append_20 hout (Nat.le_of_ble_eq_true rfl) (Nat.le_of_ble_eq_true rfl) (Nat.le_of_ble_eq_true rfl) (Nat.le_of_ble_eq_true rfl) hlocks (xc_w (k := 1) (by decide) hv hT hS) hS.2.2 (Nat.le_of_ble_eq_true rfl) (Nat.le_of_ble_eq_true rfl)
  · have hv := (if_neg c1).symm.trans hv
    refine lv_iload_n hx hb dX7_append_4 rfl (lv_at hl 1 rfl) ?_
    refine lv_sipush (v := 255) hx hb dX7_append_5 (by decide) ?_
    refine lv_icmp_le (tgt := 21) hx hb dX7_append_8 (by decide) (fun c8 => ?_) (fun c8 => ?_)
    · have hv := (if_pos c8).symm.trans hv
      refine lv_aload_n hx hb dX7_append_21 rfl (lv_at hl 0 rfl) ?_
      refine va_get (D := D) (ci := 7) (v := .ref (z 1)) (C := RX7) (T := TX7) (N := 5) hx hb hts iw_X7 hown hK hT.1 0 rfl rfl 0 (by decide) (hts _ w_fl_X7_12) (fun _ h9 => h9) rfl dX7_append_22 ?_
      refine ro_i (b2i (sX2_isFull T)) (run_c (va_runV (As := []) (rest := []) ⟨hx, hb, hml, hown, hts⟩ (c_X2_isFull l D cs z A T) (cwV 0 hts (good_V w_ml_X7_47 w_im_X2_isFull w_se_X2_isFull w_in_X2 w_co_X2_isFull) rfl rfl rfl ⟨rfl, hd_X2_isFull⟩ ⟨Nat.le_of_ble_eq_true rfl, Nat.le_of_ble_eq_true rfl⟩) (pe_W (C := RX2) (T := TX2) (N := 7) (ci := 2) (q0 := 1) hT.1 hE rfl rfl) rfl rfl hl.1 rfl (lv_room (Nat.le_of_ble_eq_true rfl)) dX7_append_25 ⟨Nat.le_of_ble_eq_true rfl, Nat.le_of_ble_eq_true rfl⟩)) ?_
      refine lv_if_eq (tgt := 41) hx hb dX7_append_28 (by decide) (fun c28 => ?_) (fun c28 => ?_)
      · have c28 := b2i_f c28
        have hv := (if_neg c28).symm.trans hv
        refine lv_aload_n hx hb dX7_append_41 rfl (lv_at hl 0 rfl) ?_
        refine va_get (D := D) (ci := 7) (v := .ref (z 1)) (C := RX7) (T := TX7) (N := 5) hx hb hts iw_X7 hown hK hT.1 0 rfl rfl 0 (by decide) (hts _ w_fl_X7_12) (fun _ h9 => h9) rfl dX7_append_42 ?_
        refine lv_iload_n hx hb dX7_append_45 rfl (lv_at hl 1 rfl) ?_
        refine lv_i2c hx hb dX7_append_46 rfl ?_
        refine w_i (sX2_add T ((p1.toUInt32 % 65536).toInt32)) (va_runV (As := [.int ((p1.toUInt32 % 65536).toInt32)]) (rest := []) ⟨hx, hb, hml, hown, hts⟩ (c_X2_add l D cs z A T ((p1.toUInt32 % 65536).toInt32) hd) (cwV 1 hts (good_V w_ml_X7_56 w_im_X2_add w_se_X2_add w_in_X2 w_co_X2_add) rfl rfl rfl ⟨rfl, hd_X2_add⟩ ⟨Nat.le_of_ble_eq_true rfl, Nat.le_of_ble_eq_true rfl⟩) (pe_W (C := RX2) (T := TX2) (N := 7) (ci := 2) (q0 := 1) hT.1 hE rfl rfl) rfl rfl hl.1 rfl (lv_room (Nat.le_of_ble_eq_true rfl)) dX7_append_47 ⟨Nat.le_of_ble_eq_true rfl, Nat.le_of_ble_eq_true rfl⟩) hS (fun _ _ h => Or.inl h) (fun _ h => Or.inl h) (fun t locs hB hz hk hS => ?_)
        have hT : tsP D cs z A Os ((sX2_add T ((p1.toUInt32 % 65536).toInt32)).2) t.heap := t_z hd hT hk hB
        refine W.widen (k := 1) (n := 6) (Nat.le_of_ble_eq_true rfl) (Nat.le_of_ble_eq_true rfl) ?_
        refine vx_ret ?_
        exact W.iret (v := (sX2_add T ((p1.toUInt32 % 65536).toInt32)).1) hx hb hr (fun t ht hW => ⟨⟨(sX2_add T ((p1.toUInt32 % 65536).toInt32)).1, (Os, ((sX2_add T ((p1.toUInt32 % 65536).toInt32)).2)), rfl, xw_eq hv, tw ht hT⟩, hS.F ht⟩) hS.2.2 dX7_append_50 (hlocks := hlocks)
      · have c28 := b2i_t c28
        have hv := (if_pos c28).symm.trans hv
        obtain ⟨sa, hsa⟩ := hXE.2.2.2.2 (53, "the text has 120 characters") (List.mem_of_getElem? (i := 1) rfl)
        exact thr_2 hx hb hlst hown hts hXE hsa hS (by rw [hml]; exact hl.1) dX7_append_31 dX7_append_34 dX7_append_35 dX7_append_37 dX7_append_40 hout (Nat.le_of_ble_eq_true rfl) (Nat.le_of_ble_eq_true rfl) (Nat.le_of_ble_eq_true rfl) (Nat.le_of_ble_eq_true rfl) hlocks (xc_w (k := 2) (by decide) hv hT hS) hS.2.2 (Nat.le_of_ble_eq_true rfl) (Nat.le_of_ble_eq_true rfl)
    · have hv := (if_neg c8).symm.trans hv
      obtain ⟨sa, hsa⟩ := hXE.2.2.2.2 (42, "a character code is 0 to 255") (List.mem_of_getElem? (i := 0) rfl)
      exact thr_1 hx hb hlst hown hts hXE hsa hS (by rw [hml]; exact hl.1) dX7_append_11 dX7_append_14 dX7_append_15 dX7_append_17 dX7_append_20 hout (Nat.le_of_ble_eq_true rfl) (Nat.le_of_ble_eq_true rfl) (Nat.le_of_ble_eq_true rfl) (Nat.le_of_ble_eq_true rfl) hlocks (xc_w (k := 1) (by decide) hv hT hS) hS.2.2 (Nat.le_of_ble_eq_true rfl) (Nat.le_of_ble_eq_true rfl)
theorem hd_X7_clearText : yX7_clearText.cls ≠ "java/lang/invoke/MethodHandle" ∧ yX7_clearText.cls ≠ "java/lang/invoke/VarHandle" ∧ (parseMethodDescriptor yX7_clearText.desc).map (fun d => d.parameters.length) = some 0 := by decide +kernel
def sX7_clearText (Os : Nat → OF) (T : OF) : Int32 × TSt := ((sX2_empty T).1, (Os, ((sX2_empty T).2)))
set_option maxHeartbeats 4000000 in
set_option maxRecDepth 100000 in
theorem c_X7_clearText (l : Launch) (D : va_G) (cs : Nat → ClassId) (z : Nat → Nat) (A : Nat → Nat → Nat) (adK adV : Nat → Nat) (Os : Nat → OF) (T : OF) (hd : tD z A) : Met l yX7_clearText (wc yX7_clearText cX7_clearText 1 (some .int)) ({ frames := 1, cells := 0, slots := 0, locals := 21 } : Room) (va_Pc [.ref (z 0)] (TE D cs z A adK adV Os T)) (va_Qi (fun (r9 : Int32) (u : TSt) => r9 = (sX7_clearText Os T).1 ∧ u = (sX7_clearText Os T).2) (fun u t => tsP D cs z A u.1 u.2 t.heap) (tA z A)) 0 0 (tA z A) := by
  obtain ⟨v, hv⟩ : ∃ v, sX7_clearText Os T = v := ⟨_, rfl⟩
  rw [hv]
  refine met_g (lv := [(0, .ref (z 0))]) (by decide) (Nat.le_of_ble_eq_true rfl) rfl ?_
  intro p e s m args below meth c ls hx hb hr hml hts hown hlocks hin hB0 hl
  obtain ⟨⟨hT, hE⟩, hXE⟩ := hB0
  have hown : s.vm.findClass RX7 = some m.cls := hown
  have hK := hE.1
  have hS : va_S (tA z A) s.heap s.heap [] := va_S.rf
  unfold sX7_clearText at hv
  refine lv_aload_n hx hb dX7_clearText_0 rfl (lv_at hl 0 rfl) ?_
  refine va_get (D := D) (ci := 7) (v := .ref (z 1)) (C := RX7) (T := TX7) (N := 5) hx hb hts iw_X7 hown hK hT.1 0 rfl rfl 0 (by decide) (hts _ w_fl_X7_12) (fun _ h9 => h9) rfl dX7_clearText_1 ?_
  refine w_i (sX2_empty T) (va_runV (As := []) (rest := []) ⟨hx, hb, hml, hown, hts⟩ (c_X2_empty l D cs z A T hd) (cwV 0 hts (good_V w_ml_X7_60 w_im_X2_empty w_se_X2_empty w_in_X2 w_co_X2_empty) rfl rfl rfl ⟨rfl, hd_X2_empty⟩ ⟨Nat.le_of_ble_eq_true rfl, Nat.le_of_ble_eq_true rfl⟩) (pe_W (C := RX2) (T := TX2) (N := 7) (ci := 2) (q0 := 1) hT.1 hE rfl rfl) rfl rfl hl.1 rfl (lv_room (Nat.le_of_ble_eq_true rfl)) dX7_clearText_4 ⟨Nat.le_of_ble_eq_true rfl, Nat.le_of_ble_eq_true rfl⟩) hS (fun _ _ h => Or.inl h) (fun _ h => Or.inl h) (fun t locs hB hz hk hS => ?_)
  have hT : tsP D cs z A Os ((sX2_empty T).2) t.heap := t_z hd hT hk hB
  exact W.iret (v := (sX2_empty T).1) hx hb hr (fun t ht hW => ⟨⟨(sX2_empty T).1, (Os, ((sX2_empty T).2)), rfl, pair_eq hv, tw ht hT⟩, hS.F ht⟩) hS.2.2 dX7_clearText_7 (hlocks := hlocks)
theorem hd_X7_about : yX7_about.cls ≠ "java/lang/invoke/MethodHandle" ∧ yX7_about.cls ≠ "java/lang/invoke/VarHandle" ∧ (parseMethodDescriptor yX7_about.desc).map (fun d => d.parameters.length) = some 1 := by decide +kernel
def sX7_about (Os : Nat → OF) (T : OF) (p1 : Int32) : Nat × Int32 := (if p1 < 0 then (1, 0) else (if p1 ≤ 9 then (0, sX1_totalNumber (Os 0) p1) else (1, 0)))
set_option maxHeartbeats 4000000 in
set_option maxRecDepth 100000 in
theorem c_X7_about (l : Launch) (D : va_G) (cs : Nat → ClassId) (z : Nat → Nat) (A : Nat → Nat → Nat) (adK adV : Nat → Nat) (Os : Nat → OF) (T : OF) (p1 : Int32) (hd : tD z A) (hlst : l.stackTraces = false) : vx_Met l yX7_about (wc yX7_about cX7_about 2 (some .int)) ({ frames := 6, cells := 1, slots := 6, locals := 130 } : Room) (va_Pc [.ref (z 0), .int p1] (TE D cs z A adK adV Os T)) (xrQ D cs z A Os T (sX7_about Os T p1)) (xrX D cs z A Os T (sX7_about Os T p1)) 1 6 (tA z A) := by
  obtain ⟨v, hv⟩ : ∃ v, sX7_about Os T p1 = v := ⟨_, rfl⟩
  rw [hv]
  refine met_x (lv := [(0, .ref (z 0)), (1, .int p1)]) (by decide) (Nat.le_of_ble_eq_true rfl) rfl ?_
  intro p e s m args below meth c ls hx hb hr hml hts hown hlocks hout hB0 hl
  obtain ⟨⟨hT, hE⟩, hXE⟩ := hB0
  have hown : s.vm.findClass RX7 = some m.cls := hown
  have hK := hE.1
  have hS : va_S (tA z A) s.heap s.heap [] := va_S.rf
  unfold sX7_about at hv
  refine lv_iload_n hx hb dX7_about_0 rfl (lv_at hl 1 rfl) ?_
  refine lv_if_lt (tgt := 10) hx hb dX7_about_1 (by decide) (fun c1 => ?_) (fun c1 => ?_)
  · have hv := (if_pos c1).symm.trans hv
    obtain ⟨sa, hsa⟩ := hXE.2.2.2.2 (81, "what is 0 to 9") (List.mem_of_getElem? (i := 3) rfl)
    exact thr_1 hx hb hlst hown hts hXE hsa hS (by rw [hml]; exact hl.1) dX7_about_10 dX7_about_13 dX7_about_14 dX7_about_16 dX7_about_19 hout (Nat.le_of_ble_eq_true rfl) (Nat.le_of_ble_eq_true rfl) (Nat.le_of_ble_eq_true rfl) (Nat.le_of_ble_eq_true rfl) hlocks (xc_r (k := 1) (by decide) hv hT hS) hS.2.2 (Nat.le_of_ble_eq_true rfl) (Nat.le_of_ble_eq_true rfl)
  · have hv := (if_neg c1).symm.trans hv
    refine lv_iload_n hx hb dX7_about_4 rfl (lv_at hl 1 rfl) ?_
    refine lv_bipush (v := 9) hx hb dX7_about_5 (by decide) ?_
    refine lv_icmp_le (tgt := 20) hx hb dX7_about_7 (by decide) (fun c7 => ?_) (fun c7 => ?_)
    · have hv := (if_pos c7).symm.trans hv
      refine lv_aload_n hx hb dX7_about_20 rfl (lv_at hl 0 rfl) ?_
      refine va_get (D := D) (ci := 7) (v := .ref (A 0 0)) (C := RX7) (T := TX7) (N := 5) hx hb hts iw_X7 hown hK hT.1 0 rfl rfl 1 (by decide) (hts _ w_fl_X7_19) (fun _ h9 => h9) rfl dX7_about_21 ?_
      refine lv_iload_n hx hb dX7_about_24 rfl (lv_at hl 1 rfl) ?_
      refine ro_i (sX1_totalNumber (Os 0) p1) (run_c (va_runV (As := [.int p1]) (rest := []) ⟨hx, hb, hml, hown, hts⟩ (c_X1_totalNumber l D cs (A 0) (Os 0) p1) (cwV 1 hts (good_V w_ml_X7_83 w_im_X1_totalNumber w_se_X1_totalNumber w_in_X1 w_co_X1_totalNumber) rfl rfl rfl ⟨rfl, hd_X1_totalNumber⟩ ⟨Nat.le_of_ble_eq_true rfl, Nat.le_of_ble_eq_true rfl⟩) (pe_W (C := RX1) (T := TX1) (N := 6) (ci := 1) (q0 := 0) (hT.2 0 (by decide)) hE rfl rfl) rfl rfl hl.1 rfl (lv_room (Nat.le_of_ble_eq_true rfl)) dX7_about_25 ⟨Nat.le_of_ble_eq_true rfl, Nat.le_of_ble_eq_true rfl⟩)) ?_
      refine W.widen (k := 1) (n := 6) (Nat.le_of_ble_eq_true rfl) (Nat.le_of_ble_eq_true rfl) ?_
      refine vx_ret ?_
      exact W.iret (v := sX1_totalNumber (Os 0) p1) hx hb hr (fun t ht hW => ⟨⟨sX1_totalNumber (Os 0) p1, (), rfl, xr_eq hv, tw ht hT⟩, hS.F ht⟩) hS.2.2 dX7_about_28 (hlocks := hlocks)
    · have hv := (if_neg c7).symm.trans hv
      obtain ⟨sa, hsa⟩ := hXE.2.2.2.2 (81, "what is 0 to 9") (List.mem_of_getElem? (i := 3) rfl)
      exact thr_1 hx hb hlst hown hts hXE hsa hS (by rw [hml]; exact hl.1) dX7_about_10 dX7_about_13 dX7_about_14 dX7_about_16 dX7_about_19 hout (Nat.le_of_ble_eq_true rfl) (Nat.le_of_ble_eq_true rfl) (Nat.le_of_ble_eq_true rfl) (Nat.le_of_ble_eq_true rfl) hlocks (xc_r (k := 1) (by decide) hv hT hS) hS.2.2 (Nat.le_of_ble_eq_true rfl) (Nat.le_of_ble_eq_true rfl)
theorem hd_X7_sheet : yX7_sheet.cls ≠ "java/lang/invoke/MethodHandle" ∧ yX7_sheet.cls ≠ "java/lang/invoke/VarHandle" ∧ (parseMethodDescriptor yX7_sheet.desc).map (fun d => d.parameters.length) = some 2 := by decide +kernel
def sX7_sheet (Os : Nat → OF) (T : OF) (p1 : Int32) (p2 : Int32) : Nat × Int32 := (if (sX7_needSheet Os T p1) = 0 then (if p2 < 0 then (1, 0) else (if p2 ≤ 7 then (0, sX1_sheetNumber (Os 0) p1 p2) else (1, 0))) else ((sX7_needSheet Os T p1), 0))
set_option maxHeartbeats 4000000 in
set_option maxRecDepth 100000 in
theorem c_X7_sheet (l : Launch) (D : va_G) (cs : Nat → ClassId) (z : Nat → Nat) (A : Nat → Nat → Nat) (adK adV : Nat → Nat) (Os : Nat → OF) (T : OF) (p1 : Int32) (p2 : Int32) (hd : tD z A) (hlst : l.stackTraces = false) : vx_Met l yX7_sheet (wc yX7_sheet cX7_sheet 3 (some .int)) ({ frames := 7, cells := 2, slots := 12, locals := 113 } : Room) (va_Pc [.ref (z 0), .int p1, .int p2] (TE D cs z A adK adV Os T)) (xrQ D cs z A Os T (sX7_sheet Os T p1 p2)) (xrX D cs z A Os T (sX7_sheet Os T p1 p2)) 2 12 (tA z A) := by
  obtain ⟨v, hv⟩ : ∃ v, sX7_sheet Os T p1 p2 = v := ⟨_, rfl⟩
  rw [hv]
  refine met_x (lv := [(0, .ref (z 0)), (1, .int p1), (2, .int p2)]) (by decide) (Nat.le_of_ble_eq_true rfl) rfl ?_
  intro p e s m args below meth c ls hx hb hr hml hts hown hlocks hout hB0 hl
  obtain ⟨⟨hT, hE⟩, hXE⟩ := hB0
  have hown : s.vm.findClass RX7 = some m.cls := hown
  have hK := hE.1
  have hS : va_S (tA z A) s.heap s.heap [] := va_S.rf
  unfold sX7_sheet at hv
  refine lv_aload_n hx hb dX7_sheet_0 rfl (lv_at hl 0 rfl) ?_
  refine lv_iload_n hx hb dX7_sheet_1 rfl (lv_at hl 1 rfl) ?_
  refine x_n (sX7_needSheet Os T p1) (vx_runV (As := [.int p1]) (rest := []) ⟨hx, hb, hml, hown, hts⟩ (c_X7_needSheet l D cs z A adK adV Os T p1 hd hlst) (cwV 1 hts (good_V w_ml_X7_86 w_im_X7_needSheet w_se_X7_needSheet w_in_X7 w_co_X7_needSheet) rfl rfl rfl ⟨rfl, hd_X7_needSheet⟩ ⟨Nat.le_of_ble_eq_true rfl, Nat.le_of_ble_eq_true rfl⟩) (te_V (C := RX7) (T9 := TX7) (N := 5) (ci := 7) (q0 := 0) hT hE hXE hS rfl rfl) rfl rfl hl.1 rfl (lv_room (Nat.le_of_ble_eq_true rfl)) dX7_sheet_2 ⟨Nat.le_of_ble_eq_true rfl, Nat.le_of_ble_eq_true rfl⟩) hS (fun _ _ h => h) (fun _ h => h) (fun c2 ce q9 t locs hT hz hk hS e1 e2 e3 => ?_) (fun c2 t locs hT hz hk hS => ?_)
  · have hv := (if_neg c2).symm.trans hv
    exact x_out hout hlocks e1 e2 e3 (xc_r (k := (sX7_needSheet Os T p1)) c2 hv hT hS) hS.2.2 (Nat.le_of_ble_eq_true rfl) (Nat.le_of_ble_eq_true rfl)
  · have hv := (if_pos c2).symm.trans hv
    refine lv_iload_n hx hb dX7_sheet_5 rfl (lv_at hl 2 rfl) ?_
    refine lv_if_lt (tgt := 15) hx hb dX7_sheet_6 (by decide) (fun c6 => ?_) (fun c6 => ?_)
    · have hv := (if_pos c6).symm.trans hv
      obtain ⟨sa, hsa⟩ := hXE.2.2.2.2 (90, "what is 0 to 7") (List.mem_of_getElem? (i := 4) rfl)
      exact thr_1 hx hb hlst hown hts hXE hsa hS (by rw [hml]; exact hl.1) dX7_sheet_15 dX7_sheet_18 dX7_sheet_19 dX7_sheet_21 dX7_sheet_24 hout (Nat.le_of_ble_eq_true rfl) (Nat.le_of_ble_eq_true rfl) (Nat.le_of_ble_eq_true rfl) (Nat.le_of_ble_eq_true rfl) hlocks (xc_r (k := 1) (by decide) hv hT hS) hS.2.2 (Nat.le_of_ble_eq_true rfl) (Nat.le_of_ble_eq_true rfl)
    · have hv := (if_neg c6).symm.trans hv
      refine lv_iload_n hx hb dX7_sheet_9 rfl (lv_at hl 2 rfl) ?_
      refine lv_bipush (v := 7) hx hb dX7_sheet_10 (by decide) ?_
      refine lv_icmp_le (tgt := 25) hx hb dX7_sheet_12 (by decide) (fun c12 => ?_) (fun c12 => ?_)
      · have hv := (if_pos c12).symm.trans hv
        refine lv_aload_n hx hb dX7_sheet_25 rfl (lv_at hl 0 rfl) ?_
        refine va_get (D := D) (ci := 7) (v := .ref (A 0 0)) (C := RX7) (T := TX7) (N := 5) hx hb hts iw_X7 hown hK hT.1 0 rfl rfl 1 (by decide) (hts _ w_fl_X7_19) (fun _ h9 => h9) rfl dX7_sheet_26 ?_
        refine lv_iload_n hx hb dX7_sheet_29 rfl (lv_at hl 1 rfl) ?_
        refine lv_iload_n hx hb dX7_sheet_30 rfl (lv_at hl 2 rfl) ?_
        refine ro_i (sX1_sheetNumber (Os 0) p1 p2) (run_c (va_runV (As := [.int p1, .int p2]) (rest := []) ⟨hx, hb, hml, hown, hts⟩ (c_X1_sheetNumber l D cs (A 0) (Os 0) p1 p2) (cwV 2 hts (good_V w_ml_X7_92 w_im_X1_sheetNumber w_se_X1_sheetNumber w_in_X1 w_co_X1_sheetNumber) rfl rfl rfl ⟨rfl, hd_X1_sheetNumber⟩ ⟨Nat.le_of_ble_eq_true rfl, Nat.le_of_ble_eq_true rfl⟩) (pe_W (C := RX1) (T := TX1) (N := 6) (ci := 1) (q0 := 0) (hT.2 0 (by decide)) hE rfl rfl) rfl rfl hl.1 rfl (lv_room (Nat.le_of_ble_eq_true rfl)) dX7_sheet_31 ⟨Nat.le_of_ble_eq_true rfl, Nat.le_of_ble_eq_true rfl⟩)) ?_
        refine W.widen (k := 2) (n := 12) (Nat.le_of_ble_eq_true rfl) (Nat.le_of_ble_eq_true rfl) ?_
        refine vx_ret ?_
        exact W.iret (v := sX1_sheetNumber (Os 0) p1 p2) hx hb hr (fun t ht hW => ⟨⟨sX1_sheetNumber (Os 0) p1 p2, (), rfl, xr_eq hv, tw ht hT⟩, hS.F ht⟩) hS.2.2 dX7_sheet_34 (hlocks := hlocks)
      · have hv := (if_neg c12).symm.trans hv
        obtain ⟨sa, hsa⟩ := hXE.2.2.2.2 (90, "what is 0 to 7") (List.mem_of_getElem? (i := 4) rfl)
        exact thr_1 hx hb hlst hown hts hXE hsa hS (by rw [hml]; exact hl.1) dX7_sheet_15 dX7_sheet_18 dX7_sheet_19 dX7_sheet_21 dX7_sheet_24 hout (Nat.le_of_ble_eq_true rfl) (Nat.le_of_ble_eq_true rfl) (Nat.le_of_ble_eq_true rfl) (Nat.le_of_ble_eq_true rfl) hlocks (xc_r (k := 1) (by decide) hv hT hS) hS.2.2 (Nat.le_of_ble_eq_true rfl) (Nat.le_of_ble_eq_true rfl)
theorem hd_X7_field : yX7_field.cls ≠ "java/lang/invoke/MethodHandle" ∧ yX7_field.cls ≠ "java/lang/invoke/VarHandle" ∧ (parseMethodDescriptor yX7_field.desc).map (fun d => d.parameters.length) = some 2 := by decide +kernel
def sX7_field (Os : Nat → OF) (T : OF) (p1 : Int32) (p2 : Int32) : Nat × Int32 := (if (sX7_needSheet Os T p1) = 0 then (if (sX7_isField p2) = true then (0, sX4_drawnOf (Os 0) p1 p2) else (3, 0)) else ((sX7_needSheet Os T p1), 0))
set_option maxHeartbeats 4000000 in
set_option maxRecDepth 100000 in
theorem c_X7_field (l : Launch) (D : va_G) (cs : Nat → ClassId) (z : Nat → Nat) (A : Nat → Nat → Nat) (adK adV : Nat → Nat) (Os : Nat → OF) (T : OF) (p1 : Int32) (p2 : Int32) (hd : tD z A) (hlst : l.stackTraces = false) : vx_Met l yX7_field (wc yX7_field cX7_field 3 (some .int)) ({ frames := 7, cells := 2, slots := 12, locals := 103 } : Room) (va_Pc [.ref (z 0), .int p1, .int p2] (TE D cs z A adK adV Os T)) (xrQ D cs z A Os T (sX7_field Os T p1 p2)) (xrX D cs z A Os T (sX7_field Os T p1 p2)) 2 12 (tA z A) := by
  obtain ⟨v, hv⟩ : ∃ v, sX7_field Os T p1 p2 = v := ⟨_, rfl⟩
  rw [hv]
  refine met_x (lv := [(0, .ref (z 0)), (1, .int p1), (2, .int p2)]) (by decide) (Nat.le_of_ble_eq_true rfl) rfl ?_
  intro p e s m args below meth c ls hx hb hr hml hts hown hlocks hout hB0 hl
  obtain ⟨⟨hT, hE⟩, hXE⟩ := hB0
  have hown : s.vm.findClass RX7 = some m.cls := hown
  have hK := hE.1
  have hS : va_S (tA z A) s.heap s.heap [] := va_S.rf
  unfold sX7_field at hv
  refine lv_aload_n hx hb dX7_field_0 rfl (lv_at hl 0 rfl) ?_
  refine lv_iload_n hx hb dX7_field_1 rfl (lv_at hl 1 rfl) ?_
  refine x_n (sX7_needSheet Os T p1) (vx_runV (As := [.int p1]) (rest := []) ⟨hx, hb, hml, hown, hts⟩ (c_X7_needSheet l D cs z A adK adV Os T p1 hd hlst) (cwV 1 hts (good_V w_ml_X7_86 w_im_X7_needSheet w_se_X7_needSheet w_in_X7 w_co_X7_needSheet) rfl rfl rfl ⟨rfl, hd_X7_needSheet⟩ ⟨Nat.le_of_ble_eq_true rfl, Nat.le_of_ble_eq_true rfl⟩) (te_V (C := RX7) (T9 := TX7) (N := 5) (ci := 7) (q0 := 0) hT hE hXE hS rfl rfl) rfl rfl hl.1 rfl (lv_room (Nat.le_of_ble_eq_true rfl)) dX7_field_2 ⟨Nat.le_of_ble_eq_true rfl, Nat.le_of_ble_eq_true rfl⟩) hS (fun _ _ h => h) (fun _ h => h) (fun c2 ce q9 t locs hT hz hk hS e1 e2 e3 => ?_) (fun c2 t locs hT hz hk hS => ?_)
  · have hv := (if_neg c2).symm.trans hv
    exact x_out hout hlocks e1 e2 e3 (xc_r (k := (sX7_needSheet Os T p1)) c2 hv hT hS) hS.2.2 (Nat.le_of_ble_eq_true rfl) (Nat.le_of_ble_eq_true rfl)
  · have hv := (if_pos c2).symm.trans hv
    refine lv_iload_n hx hb dX7_field_5 rfl (lv_at hl 2 rfl) ?_
    refine ro_i (b2i (sX7_isField p2)) (run_c (va_runS (As := [.int p2]) (rest := []) ⟨hx, hb, hml, hown, hts⟩ (c_X7_isField l D cs p2) (cwS 1 hts (good_S w_ml_X7_96 w_st_X7_isField w_in_X7 w_co_X7_isField) rfl rfl rfl ⟨rfl, hd_X7_isField⟩ ⟨Nat.le_of_ble_eq_true rfl, Nat.le_of_ble_eq_true rfl⟩) (pe_S (p_nil D _) hE) rfl rfl hl.1 rfl (lv_room (Nat.le_of_ble_eq_true rfl)) dX7_field_6 ⟨Nat.le_of_ble_eq_true rfl, Nat.le_of_ble_eq_true rfl⟩)) ?_
    refine lv_if_ne (tgt := 22) hx hb dX7_field_9 (by decide) (fun c9 => ?_) (fun c9 => ?_)
    · have c9 := b2i_t c9
      have hv := (if_pos c9).symm.trans hv
      refine lv_aload_n hx hb dX7_field_22 rfl (lv_at hl 0 rfl) ?_
      refine va_get (D := D) (ci := 7) (v := .ref (A 0 0)) (C := RX7) (T := TX7) (N := 5) hx hb hts iw_X7 hown hK hT.1 0 rfl rfl 1 (by decide) (hts _ w_fl_X7_19) (fun _ h9 => h9) rfl dX7_field_23 ?_
      refine va_getN (D := D) (ci := 1) (v := .ref (A 0 1)) (C := RX1) (T := TX1) (N := 6) hx hb hts iw_X1 hown hK (hT.2 0 (by decide)) 0 rfl rfl 0 (by decide) (va_Nw.use rfl (hE.2.2 (105, "sheets", "LTrueSheets$Sheets;") (List.mem_of_getElem? (i := 0) rfl))) (fun _ h9 => h9) rfl dX7_field_26 ?_
      refine lv_iload_n hx hb dX7_field_29 rfl (lv_at hl 1 rfl) ?_
      refine lv_iload_n hx hb dX7_field_30 rfl (lv_at hl 2 rfl) ?_
      refine ro_i (sX4_drawnOf (Os 0) p1 p2) (run_c (va_runV (As := [.int p1, .int p2]) (rest := []) ⟨hx, hb, hml, hown, hts⟩ (c_X4_drawnOf l D cs (A 0) (Os 0) p1 p2) (cwV 2 hts (good_V w_ml_X7_109 w_im_X4_drawnOf w_se_X4_drawnOf w_in_X4 w_co_X4_drawnOf) rfl rfl rfl ⟨rfl, hd_X4_drawnOf⟩ ⟨Nat.le_of_ble_eq_true rfl, Nat.le_of_ble_eq_true rfl⟩) (pe_W (C := RX4) (T := TX4) (N := 5) (ci := 4) (q0 := 1) (hT.2 0 (by decide)) hE rfl rfl) rfl rfl hl.1 rfl (lv_room (Nat.le_of_ble_eq_true rfl)) dX7_field_31 ⟨Nat.le_of_ble_eq_true rfl, Nat.le_of_ble_eq_true rfl⟩)) ?_
      refine W.widen (k := 2) (n := 12) (Nat.le_of_ble_eq_true rfl) (Nat.le_of_ble_eq_true rfl) ?_
      refine vx_ret ?_
      exact W.iret (v := sX4_drawnOf (Os 0) p1 p2) hx hb hr (fun t ht hW => ⟨⟨sX4_drawnOf (Os 0) p1 p2, (), rfl, xr_eq hv, tw ht hT⟩, hS.F ht⟩) hS.2.2 dX7_field_34 (hlocks := hlocks)
    · have c9 := b2i_f c9
      have hv := (if_neg c9).symm.trans hv
      obtain ⟨sa, hsa⟩ := hXE.2.2.2.2 (102, "no such field") (List.mem_of_getElem? (i := 5) rfl)
      exact thr_3 hx hb hlst hown hts hXE hsa hS (by rw [hml]; exact hl.1) dX7_field_12 dX7_field_15 dX7_field_16 dX7_field_18 dX7_field_21 hout (Nat.le_of_ble_eq_true rfl) (Nat.le_of_ble_eq_true rfl) (Nat.le_of_ble_eq_true rfl) (Nat.le_of_ble_eq_true rfl) hlocks (xc_r (k := 3) (by decide) hv hT hS) hS.2.2 (Nat.le_of_ble_eq_true rfl) (Nat.le_of_ble_eq_true rfl)
theorem hd_X7_drawnIn : yX7_drawnIn.cls ≠ "java/lang/invoke/MethodHandle" ∧ yX7_drawnIn.cls ≠ "java/lang/invoke/VarHandle" ∧ (parseMethodDescriptor yX7_drawnIn.desc).map (fun d => d.parameters.length) = some 2 := by decide +kernel
def sX7_drawnIn (Os : Nat → OF) (T : OF) (p1 : Int32) (p2 : Int32) : Nat × Int32 := (if (sX7_needSheet Os T p1) = 0 then (if p2 < 0 then (1, 0) else (if p2 ≤ (sX4_revisionOf (Os 0) p1) then (0, sX4_fieldsDrawn (Os 0) p1 p2 p2) else (1, 0))) else ((sX7_needSheet Os T p1), 0))
set_option maxHeartbeats 4000000 in
set_option maxRecDepth 100000 in
theorem c_X7_drawnIn (l : Launch) (D : va_G) (cs : Nat → ClassId) (z : Nat → Nat) (A : Nat → Nat → Nat) (adK adV : Nat → Nat) (Os : Nat → OF) (T : OF) (p1 : Int32) (p2 : Int32) (hd : tD z A) (hlst : l.stackTraces = false) : vx_Met l yX7_drawnIn (wc yX7_drawnIn cX7_drawnIn 3 (some .int)) ({ frames := 7, cells := 2, slots := 12, locals := 103 } : Room) (va_Pc [.ref (z 0), .int p1, .int p2] (TE D cs z A adK adV Os T)) (xrQ D cs z A Os T (sX7_drawnIn Os T p1 p2)) (xrX D cs z A Os T (sX7_drawnIn Os T p1 p2)) 2 12 (tA z A) := by
  obtain ⟨v, hv⟩ : ∃ v, sX7_drawnIn Os T p1 p2 = v := ⟨_, rfl⟩
  rw [hv]
  refine met_x (lv := [(0, .ref (z 0)), (1, .int p1), (2, .int p2)]) (by decide) (Nat.le_of_ble_eq_true rfl) rfl ?_
  intro p e s m args below meth c ls hx hb hr hml hts hown hlocks hout hB0 hl
  obtain ⟨⟨hT, hE⟩, hXE⟩ := hB0
  have hown : s.vm.findClass RX7 = some m.cls := hown
  have hK := hE.1
  have hS : va_S (tA z A) s.heap s.heap [] := va_S.rf
  unfold sX7_drawnIn at hv
  refine lv_aload_n hx hb dX7_drawnIn_0 rfl (lv_at hl 0 rfl) ?_
  refine lv_iload_n hx hb dX7_drawnIn_1 rfl (lv_at hl 1 rfl) ?_
  refine x_n (sX7_needSheet Os T p1) (vx_runV (As := [.int p1]) (rest := []) ⟨hx, hb, hml, hown, hts⟩ (c_X7_needSheet l D cs z A adK adV Os T p1 hd hlst) (cwV 1 hts (good_V w_ml_X7_86 w_im_X7_needSheet w_se_X7_needSheet w_in_X7 w_co_X7_needSheet) rfl rfl rfl ⟨rfl, hd_X7_needSheet⟩ ⟨Nat.le_of_ble_eq_true rfl, Nat.le_of_ble_eq_true rfl⟩) (te_V (C := RX7) (T9 := TX7) (N := 5) (ci := 7) (q0 := 0) hT hE hXE hS rfl rfl) rfl rfl hl.1 rfl (lv_room (Nat.le_of_ble_eq_true rfl)) dX7_drawnIn_2 ⟨Nat.le_of_ble_eq_true rfl, Nat.le_of_ble_eq_true rfl⟩) hS (fun _ _ h => h) (fun _ h => h) (fun c2 ce q9 t locs hT hz hk hS e1 e2 e3 => ?_) (fun c2 t locs hT hz hk hS => ?_)
  · have hv := (if_neg c2).symm.trans hv
    exact x_out hout hlocks e1 e2 e3 (xc_r (k := (sX7_needSheet Os T p1)) c2 hv hT hS) hS.2.2 (Nat.le_of_ble_eq_true rfl) (Nat.le_of_ble_eq_true rfl)
  · have hv := (if_pos c2).symm.trans hv
    refine lv_iload_n hx hb dX7_drawnIn_5 rfl (lv_at hl 2 rfl) ?_
    refine lv_if_lt (tgt := 24) hx hb dX7_drawnIn_6 (by decide) (fun c6 => ?_) (fun c6 => ?_)
    · have hv := (if_pos c6).symm.trans hv
      obtain ⟨sa, hsa⟩ := hXE.2.2.2.2 (117, "the sheet has had no such revision") (List.mem_of_getElem? (i := 6) rfl)
      exact thr_1 hx hb hlst hown hts hXE hsa hS (by rw [hml]; exact hl.1) dX7_drawnIn_24 dX7_drawnIn_27 dX7_drawnIn_28 dX7_drawnIn_30 dX7_drawnIn_33 hout (Nat.le_of_ble_eq_true rfl) (Nat.le_of_ble_eq_true rfl) (Nat.le_of_ble_eq_true rfl) (Nat.le_of_ble_eq_true rfl) hlocks (xc_r (k := 1) (by decide) hv hT hS) hS.2.2 (Nat.le_of_ble_eq_true rfl) (Nat.le_of_ble_eq_true rfl)
    · have hv := (if_neg c6).symm.trans hv
      refine lv_iload_n hx hb dX7_drawnIn_9 rfl (lv_at hl 2 rfl) ?_
      refine lv_aload_n hx hb dX7_drawnIn_10 rfl (lv_at hl 0 rfl) ?_
      refine va_get (D := D) (ci := 7) (v := .ref (A 0 0)) (C := RX7) (T := TX7) (N := 5) hx hb hts iw_X7 hown hK hT.1 0 rfl rfl 1 (by decide) (hts _ w_fl_X7_19) (fun _ h9 => h9) rfl dX7_drawnIn_11 ?_
      refine va_getN (D := D) (ci := 1) (v := .ref (A 0 1)) (C := RX1) (T := TX1) (N := 6) hx hb hts iw_X1 hown hK (hT.2 0 (by decide)) 0 rfl rfl 0 (by decide) (va_Nw.use rfl (hE.2.2 (105, "sheets", "LTrueSheets$Sheets;") (List.mem_of_getElem? (i := 0) rfl))) (fun _ h9 => h9) rfl dX7_drawnIn_14 ?_
      refine lv_iload_n hx hb dX7_drawnIn_17 rfl (lv_at hl 1 rfl) ?_
      refine ro_i (sX4_revisionOf (Os 0) p1) (run_c (va_runV (As := [.int p1]) (rest := [.int p2]) ⟨hx, hb, hml, hown, hts⟩ (c_X4_revisionOf l D cs (A 0) (Os 0) p1) (cwV 1 hts (good_V w_ml_X7_114 w_im_X4_revisionOf w_se_X4_revisionOf w_in_X4 w_co_X4_revisionOf) rfl rfl rfl ⟨rfl, hd_X4_revisionOf⟩ ⟨Nat.le_of_ble_eq_true rfl, Nat.le_of_ble_eq_true rfl⟩) (pe_W (C := RX4) (T := TX4) (N := 5) (ci := 4) (q0 := 1) (hT.2 0 (by decide)) hE rfl rfl) rfl rfl hl.1 rfl (lv_room (Nat.le_of_ble_eq_true rfl)) dX7_drawnIn_18 ⟨Nat.le_of_ble_eq_true rfl, Nat.le_of_ble_eq_true rfl⟩)) ?_
      refine lv_icmp_le (tgt := 34) hx hb dX7_drawnIn_21 (by decide) (fun c21 => ?_) (fun c21 => ?_)
      · have hv := (if_pos c21).symm.trans hv
        refine lv_aload_n hx hb dX7_drawnIn_34 rfl (lv_at hl 0 rfl) ?_
        refine va_get (D := D) (ci := 7) (v := .ref (A 0 0)) (C := RX7) (T := TX7) (N := 5) hx hb hts iw_X7 hown hK hT.1 0 rfl rfl 1 (by decide) (hts _ w_fl_X7_19) (fun _ h9 => h9) rfl dX7_drawnIn_35 ?_
        refine va_getN (D := D) (ci := 1) (v := .ref (A 0 1)) (C := RX1) (T := TX1) (N := 6) hx hb hts iw_X1 hown hK (hT.2 0 (by decide)) 0 rfl rfl 0 (by decide) (va_Nw.use rfl (hE.2.2 (105, "sheets", "LTrueSheets$Sheets;") (List.mem_of_getElem? (i := 0) rfl))) (fun _ h9 => h9) rfl dX7_drawnIn_38 ?_
        refine lv_iload_n hx hb dX7_drawnIn_41 rfl (lv_at hl 1 rfl) ?_
        refine lv_iload_n hx hb dX7_drawnIn_42 rfl (lv_at hl 2 rfl) ?_
        refine lv_iload_n hx hb dX7_drawnIn_43 rfl (lv_at hl 2 rfl) ?_
        refine ro_i (sX4_fieldsDrawn (Os 0) p1 p2 p2) (run_c (va_runV (As := [.int p1, .int p2, .int p2]) (rest := []) ⟨hx, hb, hml, hown, hts⟩ (c_X4_fieldsDrawn l D cs (A 0) (Os 0) p1 p2 p2) (cwV 3 hts (good_V w_ml_X7_119 w_im_X4_fieldsDrawn w_se_X4_fieldsDrawn w_in_X4 w_co_X4_fieldsDrawn) rfl rfl rfl ⟨rfl, hd_X4_fieldsDrawn⟩ ⟨Nat.le_of_ble_eq_true rfl, Nat.le_of_ble_eq_true rfl⟩) (pe_W (C := RX4) (T := TX4) (N := 5) (ci := 4) (q0 := 1) (hT.2 0 (by decide)) hE rfl rfl) rfl rfl hl.1 rfl (lv_room (Nat.le_of_ble_eq_true rfl)) dX7_drawnIn_44 ⟨Nat.le_of_ble_eq_true rfl, Nat.le_of_ble_eq_true rfl⟩)) ?_
        refine W.widen (k := 2) (n := 12) (Nat.le_of_ble_eq_true rfl) (Nat.le_of_ble_eq_true rfl) ?_
        refine vx_ret ?_
        exact W.iret (v := sX4_fieldsDrawn (Os 0) p1 p2 p2) hx hb hr (fun t ht hW => ⟨⟨sX4_fieldsDrawn (Os 0) p1 p2 p2, (), rfl, xr_eq hv, tw ht hT⟩, hS.F ht⟩) hS.2.2 dX7_drawnIn_47 (hlocks := hlocks)
      · have hv := (if_neg c21).symm.trans hv
        obtain ⟨sa, hsa⟩ := hXE.2.2.2.2 (117, "the sheet has had no such revision") (List.mem_of_getElem? (i := 6) rfl)
        exact thr_1 hx hb hlst hown hts hXE hsa hS (by rw [hml]; exact hl.1) dX7_drawnIn_24 dX7_drawnIn_27 dX7_drawnIn_28 dX7_drawnIn_30 dX7_drawnIn_33 hout (Nat.le_of_ble_eq_true rfl) (Nat.le_of_ble_eq_true rfl) (Nat.le_of_ble_eq_true rfl) (Nat.le_of_ble_eq_true rfl) hlocks (xc_r (k := 1) (by decide) hv hT hS) hS.2.2 (Nat.le_of_ble_eq_true rfl) (Nat.le_of_ble_eq_true rfl)
theorem hd_X7_printed : yX7_printed.cls ≠ "java/lang/invoke/MethodHandle" ∧ yX7_printed.cls ≠ "java/lang/invoke/VarHandle" ∧ (parseMethodDescriptor yX7_printed.desc).map (fun d => d.parameters.length) = some 2 := by decide +kernel
def sX7_printed (Os : Nat → OF) (T : OF) (p1 : Int32) (p2 : Int32) : Nat × Int32 := (if (sX3_has (Os 0) p1) = true then (if p2 < 0 then (1, 0) else (if p2 ≤ 8 then (0, sX1_printNumber (Os 0) p1 p2) else (1, 0))) else (3, 0))
set_option maxHeartbeats 4000000 in
set_option maxRecDepth 100000 in
theorem c_X7_printed (l : Launch) (D : va_G) (cs : Nat → ClassId) (z : Nat → Nat) (A : Nat → Nat → Nat) (adK adV : Nat → Nat) (Os : Nat → OF) (T : OF) (p1 : Int32) (p2 : Int32) (hd : tD z A) (hlst : l.stackTraces = false) : vx_Met l yX7_printed (wc yX7_printed cX7_printed 3 (some .int)) ({ frames := 6, cells := 1, slots := 6, locals := 106 } : Room) (va_Pc [.ref (z 0), .int p1, .int p2] (TE D cs z A adK adV Os T)) (xrQ D cs z A Os T (sX7_printed Os T p1 p2)) (xrX D cs z A Os T (sX7_printed Os T p1 p2)) 1 6 (tA z A) := by
  obtain ⟨v, hv⟩ : ∃ v, sX7_printed Os T p1 p2 = v := ⟨_, rfl⟩
  rw [hv]
  refine met_x (lv := [(0, .ref (z 0)), (1, .int p1), (2, .int p2)]) (by decide) (Nat.le_of_ble_eq_true rfl) rfl ?_
  intro p e s m args below meth c ls hx hb hr hml hts hown hlocks hout hB0 hl
  obtain ⟨⟨hT, hE⟩, hXE⟩ := hB0
  have hown : s.vm.findClass RX7 = some m.cls := hown
  have hK := hE.1
  have hS : va_S (tA z A) s.heap s.heap [] := va_S.rf
  unfold sX7_printed at hv
  refine lv_aload_n hx hb dX7_printed_0 rfl (lv_at hl 0 rfl) ?_
  refine va_get (D := D) (ci := 7) (v := .ref (A 0 0)) (C := RX7) (T := TX7) (N := 5) hx hb hts iw_X7 hown hK hT.1 0 rfl rfl 1 (by decide) (hts _ w_fl_X7_19) (fun _ h9 => h9) rfl dX7_printed_1 ?_
  refine va_getN (D := D) (ci := 1) (v := .ref (A 0 2)) (C := RX1) (T := TX1) (N := 6) hx hb hts iw_X1 hown hK (hT.2 0 (by decide)) 0 rfl rfl 1 (by decide) (va_Nw.use rfl (hE.2.2 (123, "prints", "LTrueSheets$Prints;") (List.mem_of_getElem? (i := 1) rfl))) (fun _ h9 => h9) rfl dX7_printed_4 ?_
  refine lv_iload_n hx hb dX7_printed_7 rfl (lv_at hl 1 rfl) ?_
  refine ro_i (b2i (sX3_has (Os 0) p1)) (run_c (va_runV (As := [.int p1]) (rest := []) ⟨hx, hb, hml, hown, hts⟩ (c_X3_has l D cs (A 0) (Os 0) p1) (cwV 1 hts (good_V w_ml_X7_127 w_im_X3_has w_se_X3_has w_in_X3 w_co_X3_has) rfl rfl rfl ⟨rfl, hd_X3_has⟩ ⟨Nat.le_of_ble_eq_true rfl, Nat.le_of_ble_eq_true rfl⟩) (pe_W (C := RX3) (T := TX3) (N := 8) (ci := 3) (q0 := 2) (hT.2 0 (by decide)) hE rfl rfl) rfl rfl hl.1 rfl (lv_room (Nat.le_of_ble_eq_true rfl)) dX7_printed_8 ⟨Nat.le_of_ble_eq_true rfl, Nat.le_of_ble_eq_true rfl⟩)) ?_
  refine lv_if_ne (tgt := 24) hx hb dX7_printed_11 (by decide) (fun c11 => ?_) (fun c11 => ?_)
  · have c11 := b2i_t c11
    have hv := (if_pos c11).symm.trans hv
    refine lv_iload_n hx hb dX7_printed_24 rfl (lv_at hl 2 rfl) ?_
    refine lv_if_lt (tgt := 34) hx hb dX7_printed_25 (by decide) (fun c25 => ?_) (fun c25 => ?_)
    · have hv := (if_pos c25).symm.trans hv
      obtain ⟨sa, hsa⟩ := hXE.2.2.2.2 (134, "what is 0 to 8") (List.mem_of_getElem? (i := 8) rfl)
      exact thr_1 hx hb hlst hown hts hXE hsa hS (by rw [hml]; exact hl.1) dX7_printed_34 dX7_printed_37 dX7_printed_38 dX7_printed_40 dX7_printed_43 hout (Nat.le_of_ble_eq_true rfl) (Nat.le_of_ble_eq_true rfl) (Nat.le_of_ble_eq_true rfl) (Nat.le_of_ble_eq_true rfl) hlocks (xc_r (k := 1) (by decide) hv hT hS) hS.2.2 (Nat.le_of_ble_eq_true rfl) (Nat.le_of_ble_eq_true rfl)
    · have hv := (if_neg c25).symm.trans hv
      refine lv_iload_n hx hb dX7_printed_28 rfl (lv_at hl 2 rfl) ?_
      refine lv_bipush (v := 8) hx hb dX7_printed_29 (by decide) ?_
      refine lv_icmp_le (tgt := 44) hx hb dX7_printed_31 (by decide) (fun c31 => ?_) (fun c31 => ?_)
      · have hv := (if_pos c31).symm.trans hv
        refine lv_aload_n hx hb dX7_printed_44 rfl (lv_at hl 0 rfl) ?_
        refine va_get (D := D) (ci := 7) (v := .ref (A 0 0)) (C := RX7) (T := TX7) (N := 5) hx hb hts iw_X7 hown hK hT.1 0 rfl rfl 1 (by decide) (hts _ w_fl_X7_19) (fun _ h9 => h9) rfl dX7_printed_45 ?_
        refine lv_iload_n hx hb dX7_printed_48 rfl (lv_at hl 1 rfl) ?_
        refine lv_iload_n hx hb dX7_printed_49 rfl (lv_at hl 2 rfl) ?_
        refine ro_i (sX1_printNumber (Os 0) p1 p2) (run_c (va_runV (As := [.int p1, .int p2]) (rest := []) ⟨hx, hb, hml, hown, hts⟩ (c_X1_printNumber l D cs (A 0) (Os 0) p1 p2) (cwV 2 hts (good_V w_ml_X7_136 w_im_X1_printNumber w_se_X1_printNumber w_in_X1 w_co_X1_printNumber) rfl rfl rfl ⟨rfl, hd_X1_printNumber⟩ ⟨Nat.le_of_ble_eq_true rfl, Nat.le_of_ble_eq_true rfl⟩) (pe_W (C := RX1) (T := TX1) (N := 6) (ci := 1) (q0 := 0) (hT.2 0 (by decide)) hE rfl rfl) rfl rfl hl.1 rfl (lv_room (Nat.le_of_ble_eq_true rfl)) dX7_printed_50 ⟨Nat.le_of_ble_eq_true rfl, Nat.le_of_ble_eq_true rfl⟩)) ?_
        refine W.widen (k := 1) (n := 6) (Nat.le_of_ble_eq_true rfl) (Nat.le_of_ble_eq_true rfl) ?_
        refine vx_ret ?_
        exact W.iret (v := sX1_printNumber (Os 0) p1 p2) hx hb hr (fun t ht hW => ⟨⟨sX1_printNumber (Os 0) p1 p2, (), rfl, xr_eq hv, tw ht hT⟩, hS.F ht⟩) hS.2.2 dX7_printed_53 (hlocks := hlocks)
      · have hv := (if_neg c31).symm.trans hv
        obtain ⟨sa, hsa⟩ := hXE.2.2.2.2 (134, "what is 0 to 8") (List.mem_of_getElem? (i := 8) rfl)
        exact thr_1 hx hb hlst hown hts hXE hsa hS (by rw [hml]; exact hl.1) dX7_printed_34 dX7_printed_37 dX7_printed_38 dX7_printed_40 dX7_printed_43 hout (Nat.le_of_ble_eq_true rfl) (Nat.le_of_ble_eq_true rfl) (Nat.le_of_ble_eq_true rfl) (Nat.le_of_ble_eq_true rfl) hlocks (xc_r (k := 1) (by decide) hv hT hS) hS.2.2 (Nat.le_of_ble_eq_true rfl) (Nat.le_of_ble_eq_true rfl)
  · have c11 := b2i_f c11
    have hv := (if_neg c11).symm.trans hv
    obtain ⟨sa, hsa⟩ := hXE.2.2.2.2 (132, "no such print") (List.mem_of_getElem? (i := 7) rfl)
    exact thr_3 hx hb hlst hown hts hXE hsa hS (by rw [hml]; exact hl.1) dX7_printed_14 dX7_printed_17 dX7_printed_18 dX7_printed_20 dX7_printed_23 hout (Nat.le_of_ble_eq_true rfl) (Nat.le_of_ble_eq_true rfl) (Nat.le_of_ble_eq_true rfl) (Nat.le_of_ble_eq_true rfl) hlocks (xc_r (k := 3) (by decide) hv hT hS) hS.2.2 (Nat.le_of_ble_eq_true rfl) (Nat.le_of_ble_eq_true rfl)
theorem hd_X7_work : yX7_work.cls ≠ "java/lang/invoke/MethodHandle" ∧ yX7_work.cls ≠ "java/lang/invoke/VarHandle" ∧ (parseMethodDescriptor yX7_work.desc).map (fun d => d.parameters.length) = some 2 := by decide +kernel
def sX7_work (Os : Nat → OF) (T : OF) (p1 : Int32) (p2 : Int32) : Nat × Int32 := (if (sX6_has (Os 0) p1) = true then (if p2 < 0 then (1, 0) else (if p2 ≤ 4 then (0, sX1_workNumber (Os 0) p1 p2) else (1, 0))) else (3, 0))
set_option maxHeartbeats 4000000 in
set_option maxRecDepth 100000 in
theorem c_X7_work (l : Launch) (D : va_G) (cs : Nat → ClassId) (z : Nat → Nat) (A : Nat → Nat → Nat) (adK adV : Nat → Nat) (Os : Nat → OF) (T : OF) (p1 : Int32) (p2 : Int32) (hd : tD z A) (hlst : l.stackTraces = false) : vx_Met l yX7_work (wc yX7_work cX7_work 3 (some .int)) ({ frames := 6, cells := 1, slots := 6, locals := 86 } : Room) (va_Pc [.ref (z 0), .int p1, .int p2] (TE D cs z A adK adV Os T)) (xrQ D cs z A Os T (sX7_work Os T p1 p2)) (xrX D cs z A Os T (sX7_work Os T p1 p2)) 1 6 (tA z A) := by
  obtain ⟨v, hv⟩ : ∃ v, sX7_work Os T p1 p2 = v := ⟨_, rfl⟩
  rw [hv]
  refine met_x (lv := [(0, .ref (z 0)), (1, .int p1), (2, .int p2)]) (by decide) (Nat.le_of_ble_eq_true rfl) rfl ?_
  intro p e s m args below meth c ls hx hb hr hml hts hown hlocks hout hB0 hl
  obtain ⟨⟨hT, hE⟩, hXE⟩ := hB0
  have hown : s.vm.findClass RX7 = some m.cls := hown
  have hK := hE.1
  have hS : va_S (tA z A) s.heap s.heap [] := va_S.rf
  unfold sX7_work at hv
  refine lv_aload_n hx hb dX7_work_0 rfl (lv_at hl 0 rfl) ?_
  refine va_get (D := D) (ci := 7) (v := .ref (A 0 0)) (C := RX7) (T := TX7) (N := 5) hx hb hts iw_X7 hown hK hT.1 0 rfl rfl 1 (by decide) (hts _ w_fl_X7_19) (fun _ h9 => h9) rfl dX7_work_1 ?_
  refine va_getN (D := D) (ci := 1) (v := .ref (A 0 3)) (C := RX1) (T := TX1) (N := 6) hx hb hts iw_X1 hown hK (hT.2 0 (by decide)) 0 rfl rfl 2 (by decide) (va_Nw.use rfl (hE.2.2 (139, "works", "LTrueSheets$Works;") (List.mem_of_getElem? (i := 2) rfl))) (fun _ h9 => h9) rfl dX7_work_4 ?_
  refine lv_iload_n hx hb dX7_work_7 rfl (lv_at hl 1 rfl) ?_
  refine ro_i (b2i (sX6_has (Os 0) p1)) (run_c (va_runV (As := [.int p1]) (rest := []) ⟨hx, hb, hml, hown, hts⟩ (c_X6_has l D cs (A 0) (Os 0) p1) (cwV 1 hts (good_V w_ml_X7_143 w_im_X6_has w_se_X6_has w_in_X6 w_co_X6_has) rfl rfl rfl ⟨rfl, hd_X6_has⟩ ⟨Nat.le_of_ble_eq_true rfl, Nat.le_of_ble_eq_true rfl⟩) (pe_W (C := RX6) (T := TX6) (N := 5) (ci := 6) (q0 := 3) (hT.2 0 (by decide)) hE rfl rfl) rfl rfl hl.1 rfl (lv_room (Nat.le_of_ble_eq_true rfl)) dX7_work_8 ⟨Nat.le_of_ble_eq_true rfl, Nat.le_of_ble_eq_true rfl⟩)) ?_
  refine lv_if_ne (tgt := 24) hx hb dX7_work_11 (by decide) (fun c11 => ?_) (fun c11 => ?_)
  · have c11 := b2i_t c11
    have hv := (if_pos c11).symm.trans hv
    refine lv_iload_n hx hb dX7_work_24 rfl (lv_at hl 2 rfl) ?_
    refine lv_if_lt (tgt := 33) hx hb dX7_work_25 (by decide) (fun c25 => ?_) (fun c25 => ?_)
    · have hv := (if_pos c25).symm.trans hv
      obtain ⟨sa, hsa⟩ := hXE.2.2.2.2 (148, "what is 0 to 4") (List.mem_of_getElem? (i := 10) rfl)
      exact thr_1 hx hb hlst hown hts hXE hsa hS (by rw [hml]; exact hl.1) dX7_work_33 dX7_work_36 dX7_work_37 dX7_work_39 dX7_work_42 hout (Nat.le_of_ble_eq_true rfl) (Nat.le_of_ble_eq_true rfl) (Nat.le_of_ble_eq_true rfl) (Nat.le_of_ble_eq_true rfl) hlocks (xc_r (k := 1) (by decide) hv hT hS) hS.2.2 (Nat.le_of_ble_eq_true rfl) (Nat.le_of_ble_eq_true rfl)
    · have hv := (if_neg c25).symm.trans hv
      refine lv_iload_n hx hb dX7_work_28 rfl (lv_at hl 2 rfl) ?_
      refine lv_iconst (v := 4) hx hb dX7_work_29 (by decide) ?_
      refine lv_icmp_le (tgt := 43) hx hb dX7_work_30 (by decide) (fun c30 => ?_) (fun c30 => ?_)
      · have hv := (if_pos c30).symm.trans hv
        refine lv_aload_n hx hb dX7_work_43 rfl (lv_at hl 0 rfl) ?_
        refine va_get (D := D) (ci := 7) (v := .ref (A 0 0)) (C := RX7) (T := TX7) (N := 5) hx hb hts iw_X7 hown hK hT.1 0 rfl rfl 1 (by decide) (hts _ w_fl_X7_19) (fun _ h9 => h9) rfl dX7_work_44 ?_
        refine lv_iload_n hx hb dX7_work_47 rfl (lv_at hl 1 rfl) ?_
        refine lv_iload_n hx hb dX7_work_48 rfl (lv_at hl 2 rfl) ?_
        refine ro_i (sX1_workNumber (Os 0) p1 p2) (run_c (va_runV (As := [.int p1, .int p2]) (rest := []) ⟨hx, hb, hml, hown, hts⟩ (c_X1_workNumber l D cs (A 0) (Os 0) p1 p2) (cwV 2 hts (good_V w_ml_X7_150 w_im_X1_workNumber w_se_X1_workNumber w_in_X1 w_co_X1_workNumber) rfl rfl rfl ⟨rfl, hd_X1_workNumber⟩ ⟨Nat.le_of_ble_eq_true rfl, Nat.le_of_ble_eq_true rfl⟩) (pe_W (C := RX1) (T := TX1) (N := 6) (ci := 1) (q0 := 0) (hT.2 0 (by decide)) hE rfl rfl) rfl rfl hl.1 rfl (lv_room (Nat.le_of_ble_eq_true rfl)) dX7_work_49 ⟨Nat.le_of_ble_eq_true rfl, Nat.le_of_ble_eq_true rfl⟩)) ?_
        refine W.widen (k := 1) (n := 6) (Nat.le_of_ble_eq_true rfl) (Nat.le_of_ble_eq_true rfl) ?_
        refine vx_ret ?_
        exact W.iret (v := sX1_workNumber (Os 0) p1 p2) hx hb hr (fun t ht hW => ⟨⟨sX1_workNumber (Os 0) p1 p2, (), rfl, xr_eq hv, tw ht hT⟩, hS.F ht⟩) hS.2.2 dX7_work_52 (hlocks := hlocks)
      · have hv := (if_neg c30).symm.trans hv
        obtain ⟨sa, hsa⟩ := hXE.2.2.2.2 (148, "what is 0 to 4") (List.mem_of_getElem? (i := 10) rfl)
        exact thr_1 hx hb hlst hown hts hXE hsa hS (by rw [hml]; exact hl.1) dX7_work_33 dX7_work_36 dX7_work_37 dX7_work_39 dX7_work_42 hout (Nat.le_of_ble_eq_true rfl) (Nat.le_of_ble_eq_true rfl) (Nat.le_of_ble_eq_true rfl) (Nat.le_of_ble_eq_true rfl) hlocks (xc_r (k := 1) (by decide) hv hT hS) hS.2.2 (Nat.le_of_ble_eq_true rfl) (Nat.le_of_ble_eq_true rfl)
  · have c11 := b2i_f c11
    have hv := (if_neg c11).symm.trans hv
    obtain ⟨sa, hsa⟩ := hXE.2.2.2.2 (146, "no such work") (List.mem_of_getElem? (i := 9) rfl)
    exact thr_3 hx hb hlst hown hts hXE hsa hS (by rw [hml]; exact hl.1) dX7_work_14 dX7_work_17 dX7_work_18 dX7_work_20 dX7_work_23 hout (Nat.le_of_ble_eq_true rfl) (Nat.le_of_ble_eq_true rfl) (Nat.le_of_ble_eq_true rfl) (Nat.le_of_ble_eq_true rfl) hlocks (xc_r (k := 3) (by decide) hv hT hS) hS.2.2 (Nat.le_of_ble_eq_true rfl) (Nat.le_of_ble_eq_true rfl)
theorem hd_X7_setting : yX7_setting.cls ≠ "java/lang/invoke/MethodHandle" ∧ yX7_setting.cls ≠ "java/lang/invoke/VarHandle" ∧ (parseMethodDescriptor yX7_setting.desc).map (fun d => d.parameters.length) = some 1 := by decide +kernel
def sX7_setting (Os : Nat → OF) (T : OF) (p1 : Int32) : Nat × Int32 := (if (sX7_isSetting p1) = true then (0, sX1_settingOf (Os 0) p1) else (1, 0))
set_option maxHeartbeats 4000000 in
set_option maxRecDepth 100000 in
theorem c_X7_setting (l : Launch) (D : va_G) (cs : Nat → ClassId) (z : Nat → Nat) (A : Nat → Nat → Nat) (adK adV : Nat → Nat) (Os : Nat → OF) (T : OF) (p1 : Int32) (hd : tD z A) (hlst : l.stackTraces = false) : vx_Met l yX7_setting (wc yX7_setting cX7_setting 2 (some .int)) ({ frames := 6, cells := 1, slots := 6, locals := 82 } : Room) (va_Pc [.ref (z 0), .int p1] (TE D cs z A adK adV Os T)) (xrQ D cs z A Os T (sX7_setting Os T p1)) (xrX D cs z A Os T (sX7_setting Os T p1)) 1 6 (tA z A) := by
  obtain ⟨v, hv⟩ : ∃ v, sX7_setting Os T p1 = v := ⟨_, rfl⟩
  rw [hv]
  refine met_x (lv := [(0, .ref (z 0)), (1, .int p1)]) (by decide) (Nat.le_of_ble_eq_true rfl) rfl ?_
  intro p e s m args below meth c ls hx hb hr hml hts hown hlocks hout hB0 hl
  obtain ⟨⟨hT, hE⟩, hXE⟩ := hB0
  have hown : s.vm.findClass RX7 = some m.cls := hown
  have hK := hE.1
  have hS : va_S (tA z A) s.heap s.heap [] := va_S.rf
  unfold sX7_setting at hv
  refine lv_iload_n hx hb dX7_setting_0 rfl (lv_at hl 1 rfl) ?_
  refine ro_i (b2i (sX7_isSetting p1)) (run_c (va_runS (As := [.int p1]) (rest := []) ⟨hx, hb, hml, hown, hts⟩ (c_X7_isSetting l D cs p1) (cwS 1 hts (good_S w_ml_X7_153 w_st_X7_isSetting w_in_X7 w_co_X7_isSetting) rfl rfl rfl ⟨rfl, hd_X7_isSetting⟩ ⟨Nat.le_of_ble_eq_true rfl, Nat.le_of_ble_eq_true rfl⟩) (pe_S (p_nil D _) hE) rfl rfl hl.1 rfl (lv_room (Nat.le_of_ble_eq_true rfl)) dX7_setting_1 ⟨Nat.le_of_ble_eq_true rfl, Nat.le_of_ble_eq_true rfl⟩)) ?_
  refine lv_if_ne (tgt := 17) hx hb dX7_setting_4 (by decide) (fun c4 => ?_) (fun c4 => ?_)
  · have c4 := b2i_t c4
    have hv := (if_pos c4).symm.trans hv
    refine lv_aload_n hx hb dX7_setting_17 rfl (lv_at hl 0 rfl) ?_
    refine va_get (D := D) (ci := 7) (v := .ref (A 0 0)) (C := RX7) (T := TX7) (N := 5) hx hb hts iw_X7 hown hK hT.1 0 rfl rfl 1 (by decide) (hts _ w_fl_X7_19) (fun _ h9 => h9) rfl dX7_setting_18 ?_
    refine lv_iload_n hx hb dX7_setting_21 rfl (lv_at hl 1 rfl) ?_
    refine ro_i (sX1_settingOf (Os 0) p1) (run_c (va_runV (As := [.int p1]) (rest := []) ⟨hx, hb, hml, hown, hts⟩ (c_X1_settingOf l D cs (A 0) (Os 0) p1) (cwV 1 hts (good_V w_ml_X7_158 w_im_X1_settingOf w_se_X1_settingOf w_in_X1 w_co_X1_settingOf) rfl rfl rfl ⟨rfl, hd_X1_settingOf⟩ ⟨Nat.le_of_ble_eq_true rfl, Nat.le_of_ble_eq_true rfl⟩) (pe_W (C := RX1) (T := TX1) (N := 6) (ci := 1) (q0 := 0) (hT.2 0 (by decide)) hE rfl rfl) rfl rfl hl.1 rfl (lv_room (Nat.le_of_ble_eq_true rfl)) dX7_setting_22 ⟨Nat.le_of_ble_eq_true rfl, Nat.le_of_ble_eq_true rfl⟩)) ?_
    refine W.widen (k := 1) (n := 6) (Nat.le_of_ble_eq_true rfl) (Nat.le_of_ble_eq_true rfl) ?_
    refine vx_ret ?_
    exact W.iret (v := sX1_settingOf (Os 0) p1) hx hb hr (fun t ht hW => ⟨⟨sX1_settingOf (Os 0) p1, (), rfl, xr_eq hv, tw ht hT⟩, hS.F ht⟩) hS.2.2 dX7_setting_25 (hlocks := hlocks)
  · have c4 := b2i_f c4
    have hv := (if_neg c4).symm.trans hv
    obtain ⟨sa, hsa⟩ := hXE.2.2.2.2 (156, "no such setting") (List.mem_of_getElem? (i := 11) rfl)
    exact thr_1 hx hb hlst hown hts hXE hsa hS (by rw [hml]; exact hl.1) dX7_setting_7 dX7_setting_10 dX7_setting_11 dX7_setting_13 dX7_setting_16 hout (Nat.le_of_ble_eq_true rfl) (Nat.le_of_ble_eq_true rfl) (Nat.le_of_ble_eq_true rfl) (Nat.le_of_ble_eq_true rfl) hlocks (xc_r (k := 1) (by decide) hv hT hS) hS.2.2 (Nat.le_of_ble_eq_true rfl) (Nat.le_of_ble_eq_true rfl)
theorem hd_X7_truePrint : yX7_truePrint.cls ≠ "java/lang/invoke/MethodHandle" ∧ yX7_truePrint.cls ≠ "java/lang/invoke/VarHandle" ∧ (parseMethodDescriptor yX7_truePrint.desc).map (fun d => d.parameters.length) = some 2 := by decide +kernel
def sX7_truePrint (Os : Nat → OF) (T : OF) (p1 : Int32) (p2 : Int32) : Nat × Int32 := (if (sX7_isSite p1) = true then (if (sX7_needSheet Os T p2) = 0 then (0, sX1_firstTruePrint (Os 0) p1 p2) else ((sX7_needSheet Os T p2), 0)) else (3, 0))
set_option maxHeartbeats 4000000 in
set_option maxRecDepth 100000 in
theorem c_X7_truePrint (l : Launch) (D : va_G) (cs : Nat → ClassId) (z : Nat → Nat) (A : Nat → Nat → Nat) (adK adV : Nat → Nat) (Os : Nat → OF) (T : OF) (p1 : Int32) (p2 : Int32) (hd : tD z A) (hlst : l.stackTraces = false) : vx_Met l yX7_truePrint (wc yX7_truePrint cX7_truePrint 3 (some .int)) ({ frames := 7, cells := 1, slots := 6, locals := 107 } : Room) (va_Pc [.ref (z 0), .int p1, .int p2] (TE D cs z A adK adV Os T)) (xrQ D cs z A Os T (sX7_truePrint Os T p1 p2)) (xrX D cs z A Os T (sX7_truePrint Os T p1 p2)) 1 6 (tA z A) := by
  obtain ⟨v, hv⟩ : ∃ v, sX7_truePrint Os T p1 p2 = v := ⟨_, rfl⟩
  rw [hv]
  refine met_x (lv := [(0, .ref (z 0)), (1, .int p1), (2, .int p2)]) (by decide) (Nat.le_of_ble_eq_true rfl) rfl ?_
  intro p e s m args below meth c ls hx hb hr hml hts hown hlocks hout hB0 hl
  obtain ⟨⟨hT, hE⟩, hXE⟩ := hB0
  have hown : s.vm.findClass RX7 = some m.cls := hown
  have hK := hE.1
  have hS : va_S (tA z A) s.heap s.heap [] := va_S.rf
  unfold sX7_truePrint at hv
  refine lv_iload_n hx hb dX7_truePrint_0 rfl (lv_at hl 1 rfl) ?_
  refine ro_i (b2i (sX7_isSite p1)) (run_c (va_runS (As := [.int p1]) (rest := []) ⟨hx, hb, hml, hown, hts⟩ (c_X7_isSite l D cs p1) (cwS 1 hts (good_S w_ml_X7_207 w_st_X7_isSite w_in_X7 w_co_X7_isSite) rfl rfl rfl ⟨rfl, hd_X7_isSite⟩ ⟨Nat.le_of_ble_eq_true rfl, Nat.le_of_ble_eq_true rfl⟩) (pe_S (p_nil D _) hE) rfl rfl hl.1 rfl (lv_room (Nat.le_of_ble_eq_true rfl)) dX7_truePrint_1 ⟨Nat.le_of_ble_eq_true rfl, Nat.le_of_ble_eq_true rfl⟩)) ?_
  refine lv_if_ne (tgt := 17) hx hb dX7_truePrint_4 (by decide) (fun c4 => ?_) (fun c4 => ?_)
  · have c4 := b2i_t c4
    have hv := (if_pos c4).symm.trans hv
    refine lv_aload_n hx hb dX7_truePrint_17 rfl (lv_at hl 0 rfl) ?_
    refine lv_iload_n hx hb dX7_truePrint_18 rfl (lv_at hl 2 rfl) ?_
    refine x_n (sX7_needSheet Os T p2) (vx_runV (As := [.int p2]) (rest := []) ⟨hx, hb, hml, hown, hts⟩ (c_X7_needSheet l D cs z A adK adV Os T p2 hd hlst) (cwV 1 hts (good_V w_ml_X7_86 w_im_X7_needSheet w_se_X7_needSheet w_in_X7 w_co_X7_needSheet) rfl rfl rfl ⟨rfl, hd_X7_needSheet⟩ ⟨Nat.le_of_ble_eq_true rfl, Nat.le_of_ble_eq_true rfl⟩) (te_V (C := RX7) (T9 := TX7) (N := 5) (ci := 7) (q0 := 0) hT hE hXE hS rfl rfl) rfl rfl hl.1 rfl (lv_room (Nat.le_of_ble_eq_true rfl)) dX7_truePrint_19 ⟨Nat.le_of_ble_eq_true rfl, Nat.le_of_ble_eq_true rfl⟩) hS (fun _ _ h => h) (fun _ h => h) (fun c19 ce q9 t locs hT hz hk hS e1 e2 e3 => ?_) (fun c19 t locs hT hz hk hS => ?_)
    · have hv := (if_neg c19).symm.trans hv
      exact x_out hout hlocks e1 e2 e3 (xc_r (k := (sX7_needSheet Os T p2)) c19 hv hT hS) hS.2.2 (Nat.le_of_ble_eq_true rfl) (Nat.le_of_ble_eq_true rfl)
    · have hv := (if_pos c19).symm.trans hv
      refine lv_aload_n hx hb dX7_truePrint_22 rfl (lv_at hl 0 rfl) ?_
      refine va_get (D := D) (ci := 7) (v := .ref (A 0 0)) (C := RX7) (T := TX7) (N := 5) hx hb hts iw_X7 hown hK hT.1 0 rfl rfl 1 (by decide) (hts _ w_fl_X7_19) (fun _ h9 => h9) rfl dX7_truePrint_23 ?_
      refine lv_iload_n hx hb dX7_truePrint_26 rfl (lv_at hl 1 rfl) ?_
      refine lv_iload_n hx hb dX7_truePrint_27 rfl (lv_at hl 2 rfl) ?_
      refine ro_i (sX1_firstTruePrint (Os 0) p1 p2) (run_c (va_runV (As := [.int p1, .int p2]) (rest := []) ⟨hx, hb, hml, hown, hts⟩ (c_X1_firstTruePrint l D cs (A 0) (Os 0) p1 p2) (cwV 2 hts (good_V w_ml_X7_212 w_im_X1_firstTruePrint w_se_X1_firstTruePrint w_in_X1 w_co_X1_firstTruePrint) rfl rfl rfl ⟨rfl, hd_X1_firstTruePrint⟩ ⟨Nat.le_of_ble_eq_true rfl, Nat.le_of_ble_eq_true rfl⟩) (pe_W (C := RX1) (T := TX1) (N := 6) (ci := 1) (q0 := 0) (hT.2 0 (by decide)) hE rfl rfl) rfl rfl hl.1 rfl (lv_room (Nat.le_of_ble_eq_true rfl)) dX7_truePrint_28 ⟨Nat.le_of_ble_eq_true rfl, Nat.le_of_ble_eq_true rfl⟩)) ?_
      refine W.widen (k := 1) (n := 6) (Nat.le_of_ble_eq_true rfl) (Nat.le_of_ble_eq_true rfl) ?_
      refine vx_ret ?_
      exact W.iret (v := sX1_firstTruePrint (Os 0) p1 p2) hx hb hr (fun t ht hW => ⟨⟨sX1_firstTruePrint (Os 0) p1 p2, (), rfl, xr_eq hv, tw ht hT⟩, hS.F ht⟩) hS.2.2 dX7_truePrint_31 (hlocks := hlocks)
  · have c4 := b2i_f c4
    have hv := (if_neg c4).symm.trans hv
    obtain ⟨sa, hsa⟩ := hXE.2.2.2.2 (210, "no such site") (List.mem_of_getElem? (i := 13) rfl)
    exact thr_3 hx hb hlst hown hts hXE hsa hS (by rw [hml]; exact hl.1) dX7_truePrint_7 dX7_truePrint_10 dX7_truePrint_11 dX7_truePrint_13 dX7_truePrint_16 hout (Nat.le_of_ble_eq_true rfl) (Nat.le_of_ble_eq_true rfl) (Nat.le_of_ble_eq_true rfl) (Nat.le_of_ble_eq_true rfl) hlocks (xc_r (k := 3) (by decide) hv hT hS) hS.2.2 (Nat.le_of_ble_eq_true rfl) (Nat.le_of_ble_eq_true rfl)
theorem hd_X7_ifRevised : yX7_ifRevised.cls ≠ "java/lang/invoke/MethodHandle" ∧ yX7_ifRevised.cls ≠ "java/lang/invoke/VarHandle" ∧ (parseMethodDescriptor yX7_ifRevised.desc).map (fun d => d.parameters.length) = some 3 := by decide +kernel
def sX7_ifRevised (Os : Nat → OF) (T : OF) (p1 : Int32) (p2 : Int32) (p3 : Int32) : Nat × Int32 := (if (sX7_needSheet Os T p1) = 0 then (if (sX7_isCloud p2) = true then (if p3 < 0 then (1, 0) else (if p3 ≤ 3 then (if (sX4_revisionOf (Os 0) p1) < 99 then (if p3 = 0 then (0, sX3_recallCountOf (Os 0) p1) else (if p3 = 1 then (0, sX1_worksMadeWrong (Os 0) p1 p2) else (if p3 = 2 then (0, sX4_aboveNotToCheck (Os 0) p1) else (0, sX1_sitesWithTruePrint (Os 0) p1)))) else (2, 0)) else (1, 0))) else (1, 0)) else ((sX7_needSheet Os T p1), 0))
set_option maxHeartbeats 4000000 in
set_option maxRecDepth 100000 in
theorem c_X7_ifRevised (l : Launch) (D : va_G) (cs : Nat → ClassId) (z : Nat → Nat) (A : Nat → Nat → Nat) (adK adV : Nat → Nat) (Os : Nat → OF) (T : OF) (p1 : Int32) (p2 : Int32) (p3 : Int32) (hd : tD z A) (hlst : l.stackTraces = false) : vx_Met l yX7_ifRevised (wc yX7_ifRevised cX7_ifRevised 4 (some .int)) ({ frames := 7, cells := 2, slots := 12, locals := 130 } : Room) (va_Pc [.ref (z 0), .int p1, .int p2, .int p3] (TE D cs z A adK adV Os T)) (xrQ D cs z A Os T (sX7_ifRevised Os T p1 p2 p3)) (xrX D cs z A Os T (sX7_ifRevised Os T p1 p2 p3)) 2 12 (tA z A) := by
  obtain ⟨v, hv⟩ : ∃ v, sX7_ifRevised Os T p1 p2 p3 = v := ⟨_, rfl⟩
  rw [hv]
  refine met_x (lv := [(0, .ref (z 0)), (1, .int p1), (2, .int p2), (3, .int p3)]) (by decide) (Nat.le_of_ble_eq_true rfl) rfl ?_
  intro p e s m args below meth c ls hx hb hr hml hts hown hlocks hout hB0 hl
  obtain ⟨⟨hT, hE⟩, hXE⟩ := hB0
  have hown : s.vm.findClass RX7 = some m.cls := hown
  have hK := hE.1
  have hS : va_S (tA z A) s.heap s.heap [] := va_S.rf
  unfold sX7_ifRevised at hv
  refine lv_aload_n hx hb dX7_ifRevised_0 rfl (lv_at hl 0 rfl) ?_
  refine lv_iload_n hx hb dX7_ifRevised_1 rfl (lv_at hl 1 rfl) ?_
  refine x_n (sX7_needSheet Os T p1) (vx_runV (As := [.int p1]) (rest := []) ⟨hx, hb, hml, hown, hts⟩ (c_X7_needSheet l D cs z A adK adV Os T p1 hd hlst) (cwV 1 hts (good_V w_ml_X7_86 w_im_X7_needSheet w_se_X7_needSheet w_in_X7 w_co_X7_needSheet) rfl rfl rfl ⟨rfl, hd_X7_needSheet⟩ ⟨Nat.le_of_ble_eq_true rfl, Nat.le_of_ble_eq_true rfl⟩) (te_V (C := RX7) (T9 := TX7) (N := 5) (ci := 7) (q0 := 0) hT hE hXE hS rfl rfl) rfl rfl hl.1 rfl (lv_room (Nat.le_of_ble_eq_true rfl)) dX7_ifRevised_2 ⟨Nat.le_of_ble_eq_true rfl, Nat.le_of_ble_eq_true rfl⟩) hS (fun _ _ h => h) (fun _ h => h) (fun c2 ce q9 t locs hT hz hk hS e1 e2 e3 => ?_) (fun c2 t locs hT hz hk hS => ?_)
  · have hv := (if_neg c2).symm.trans hv
    exact x_out hout hlocks e1 e2 e3 (xc_r (k := (sX7_needSheet Os T p1)) c2 hv hT hS) hS.2.2 (Nat.le_of_ble_eq_true rfl) (Nat.le_of_ble_eq_true rfl)
  · have hv := (if_pos c2).symm.trans hv
    refine lv_iload_n hx hb dX7_ifRevised_5 rfl (lv_at hl 2 rfl) ?_
    refine ro_i (b2i (sX7_isCloud p2)) (run_c (va_runS (As := [.int p2]) (rest := []) ⟨hx, hb, hml, hown, hts⟩ (c_X7_isCloud l D cs p2) (cwS 1 hts (good_S w_ml_X7_215 w_st_X7_isCloud w_in_X7 w_co_X7_isCloud) rfl rfl rfl ⟨rfl, hd_X7_isCloud⟩ ⟨Nat.le_of_ble_eq_true rfl, Nat.le_of_ble_eq_true rfl⟩) (pe_S (p_nil D _) hE) rfl rfl hl.1 rfl (lv_room (Nat.le_of_ble_eq_true rfl)) dX7_ifRevised_6 ⟨Nat.le_of_ble_eq_true rfl, Nat.le_of_ble_eq_true rfl⟩)) ?_
    refine lv_if_eq (tgt := 21) hx hb dX7_ifRevised_9 (by decide) (fun c9 => ?_) (fun c9 => ?_)
    · have c9 := b2i_f c9
      have hv := (if_neg c9).symm.trans hv
      obtain ⟨sa, hsa⟩ := hXE.2.2.2.2 (218, "fields are 1 to 4095, what is 0 to 3") (List.mem_of_getElem? (i := 14) rfl)
      exact thr_1 hx hb hlst hown hts hXE hsa hS (by rw [hml]; exact hl.1) dX7_ifRevised_21 dX7_ifRevised_24 dX7_ifRevised_25 dX7_ifRevised_27 dX7_ifRevised_30 hout (Nat.le_of_ble_eq_true rfl) (Nat.le_of_ble_eq_true rfl) (Nat.le_of_ble_eq_true rfl) (Nat.le_of_ble_eq_true rfl) hlocks (xc_r (k := 1) (by decide) hv hT hS) hS.2.2 (Nat.le_of_ble_eq_true rfl) (Nat.le_of_ble_eq_true rfl)
    · have c9 := b2i_t c9
      have hv := (if_pos c9).symm.trans hv
      refine lv_iload_n hx hb dX7_ifRevised_12 rfl (lv_at hl 3 rfl) ?_
      refine lv_if_lt (tgt := 21) hx hb dX7_ifRevised_13 (by decide) (fun c13 => ?_) (fun c13 => ?_)
      · have hv := (if_pos c13).symm.trans hv
        obtain ⟨sa, hsa⟩ := hXE.2.2.2.2 (218, "fields are 1 to 4095, what is 0 to 3") (List.mem_of_getElem? (i := 14) rfl)
        exact thr_1 hx hb hlst hown hts hXE hsa hS (by rw [hml]; exact hl.1) dX7_ifRevised_21 dX7_ifRevised_24 dX7_ifRevised_25 dX7_ifRevised_27 dX7_ifRevised_30 hout (Nat.le_of_ble_eq_true rfl) (Nat.le_of_ble_eq_true rfl) (Nat.le_of_ble_eq_true rfl) (Nat.le_of_ble_eq_true rfl) hlocks (xc_r (k := 1) (by decide) hv hT hS) hS.2.2 (Nat.le_of_ble_eq_true rfl) (Nat.le_of_ble_eq_true rfl)
      · have hv := (if_neg c13).symm.trans hv
        refine lv_iload_n hx hb dX7_ifRevised_16 rfl (lv_at hl 3 rfl) ?_
        refine lv_iconst (v := 3) hx hb dX7_ifRevised_17 (by decide) ?_
        refine lv_icmp_le (tgt := 31) hx hb dX7_ifRevised_18 (by decide) (fun c18 => ?_) (fun c18 => ?_)
        · have hv := (if_pos c18).symm.trans hv
          refine lv_aload_n hx hb dX7_ifRevised_31 rfl (lv_at hl 0 rfl) ?_
          refine va_get (D := D) (ci := 7) (v := .ref (A 0 0)) (C := RX7) (T := TX7) (N := 5) hx hb hts iw_X7 hown hK hT.1 0 rfl rfl 1 (by decide) (hts _ w_fl_X7_19) (fun _ h9 => h9) rfl dX7_ifRevised_32 ?_
          refine va_getN (D := D) (ci := 1) (v := .ref (A 0 1)) (C := RX1) (T := TX1) (N := 6) hx hb hts iw_X1 hown hK (hT.2 0 (by decide)) 0 rfl rfl 0 (by decide) (va_Nw.use rfl (hE.2.2 (105, "sheets", "LTrueSheets$Sheets;") (List.mem_of_getElem? (i := 0) rfl))) (fun _ h9 => h9) rfl dX7_ifRevised_35 ?_
          refine lv_iload_n hx hb dX7_ifRevised_38 rfl (lv_at hl 1 rfl) ?_
          refine ro_i (sX4_revisionOf (Os 0) p1) (run_c (va_runV (As := [.int p1]) (rest := []) ⟨hx, hb, hml, hown, hts⟩ (c_X4_revisionOf l D cs (A 0) (Os 0) p1) (cwV 1 hts (good_V w_ml_X7_114 w_im_X4_revisionOf w_se_X4_revisionOf w_in_X4 w_co_X4_revisionOf) rfl rfl rfl ⟨rfl, hd_X4_revisionOf⟩ ⟨Nat.le_of_ble_eq_true rfl, Nat.le_of_ble_eq_true rfl⟩) (pe_W (C := RX4) (T := TX4) (N := 5) (ci := 4) (q0 := 1) (hT.2 0 (by decide)) hE rfl rfl) rfl rfl hl.1 rfl (lv_room (Nat.le_of_ble_eq_true rfl)) dX7_ifRevised_39 ⟨Nat.le_of_ble_eq_true rfl, Nat.le_of_ble_eq_true rfl⟩)) ?_
          refine lv_bipush (v := 99) hx hb dX7_ifRevised_42 (by decide) ?_
          refine lv_icmp_lt (tgt := 57) hx hb dX7_ifRevised_44 (by decide) (fun c44 => ?_) (fun c44 => ?_)
          · have hv := (if_pos c44).symm.trans hv
            refine lv_iload_n hx hb dX7_ifRevised_57 rfl (lv_at hl 3 rfl) ?_
            by_cases c58_0 : p3 = 0
            · have hv := (if_pos c58_0).symm.trans hv
              refine lv_tableIn (off := 26) (tgt := 84) hx hb dX7_ifRevised_58 (by rw [c58_0]; decide) (by rw [c58_0]; decide) (by rw [c58_0]; rfl) (by decide) ?_
              refine lv_aload_n hx hb dX7_ifRevised_84 rfl (lv_at hl 0 rfl) ?_
              refine va_get (D := D) (ci := 7) (v := .ref (A 0 0)) (C := RX7) (T := TX7) (N := 5) hx hb hts iw_X7 hown hK hT.1 0 rfl rfl 1 (by decide) (hts _ w_fl_X7_19) (fun _ h9 => h9) rfl dX7_ifRevised_85 ?_
              refine va_getN (D := D) (ci := 1) (v := .ref (A 0 2)) (C := RX1) (T := TX1) (N := 6) hx hb hts iw_X1 hown hK (hT.2 0 (by decide)) 0 rfl rfl 1 (by decide) (va_Nw.use rfl (hE.2.2 (123, "prints", "LTrueSheets$Prints;") (List.mem_of_getElem? (i := 1) rfl))) (fun _ h9 => h9) rfl dX7_ifRevised_88 ?_
              refine lv_iload_n hx hb dX7_ifRevised_91 rfl (lv_at hl 1 rfl) ?_
              refine ro_i (sX3_recallCountOf (Os 0) p1) (run_c (va_runV (As := [.int p1]) (rest := []) ⟨hx, hb, hml, hown, hts⟩ (c_X3_recallCountOf l D cs (A 0) (Os 0) p1) (cwV 1 hts (good_V w_ml_X7_222 w_im_X3_recallCountOf w_se_X3_recallCountOf w_in_X3 w_co_X3_recallCountOf) rfl rfl rfl ⟨rfl, hd_X3_recallCountOf⟩ ⟨Nat.le_of_ble_eq_true rfl, Nat.le_of_ble_eq_true rfl⟩) (pe_W (C := RX3) (T := TX3) (N := 8) (ci := 3) (q0 := 2) (hT.2 0 (by decide)) hE rfl rfl) rfl rfl hl.1 rfl (lv_room (Nat.le_of_ble_eq_true rfl)) dX7_ifRevised_92 ⟨Nat.le_of_ble_eq_true rfl, Nat.le_of_ble_eq_true rfl⟩)) ?_
              refine W.widen (k := 2) (n := 12) (Nat.le_of_ble_eq_true rfl) (Nat.le_of_ble_eq_true rfl) ?_
              refine vx_ret ?_
              exact W.iret (v := sX3_recallCountOf (Os 0) p1) hx hb hr (fun t ht hW => ⟨⟨sX3_recallCountOf (Os 0) p1, (), rfl, xr_eq hv, tw ht hT⟩, hS.F ht⟩) hS.2.2 dX7_ifRevised_95 (hlocks := hlocks)
            · have hv := (if_neg c58_0).symm.trans hv
              by_cases c58_1 : p3 = 1
              · have hv := (if_pos c58_1).symm.trans hv
                refine lv_tableIn (off := 38) (tgt := 96) hx hb dX7_ifRevised_58 (by rw [c58_1]; decide) (by rw [c58_1]; decide) (by rw [c58_1]; rfl) (by decide) ?_
                refine lv_aload_n hx hb dX7_ifRevised_96 rfl (lv_at hl 0 rfl) ?_
                refine va_get (D := D) (ci := 7) (v := .ref (A 0 0)) (C := RX7) (T := TX7) (N := 5) hx hb hts iw_X7 hown hK hT.1 0 rfl rfl 1 (by decide) (hts _ w_fl_X7_19) (fun _ h9 => h9) rfl dX7_ifRevised_97 ?_
                refine lv_iload_n hx hb dX7_ifRevised_100 rfl (lv_at hl 1 rfl) ?_
                refine lv_iload_n hx hb dX7_ifRevised_101 rfl (lv_at hl 2 rfl) ?_
                refine ro_i (sX1_worksMadeWrong (Os 0) p1 p2) (run_c (va_runV (As := [.int p1, .int p2]) (rest := []) ⟨hx, hb, hml, hown, hts⟩ (c_X1_worksMadeWrong l D cs (A 0) (Os 0) p1 p2) (cwV 2 hts (good_V w_ml_X7_225 w_im_X1_worksMadeWrong w_se_X1_worksMadeWrong w_in_X1 w_co_X1_worksMadeWrong) rfl rfl rfl ⟨rfl, hd_X1_worksMadeWrong⟩ ⟨Nat.le_of_ble_eq_true rfl, Nat.le_of_ble_eq_true rfl⟩) (pe_W (C := RX1) (T := TX1) (N := 6) (ci := 1) (q0 := 0) (hT.2 0 (by decide)) hE rfl rfl) rfl rfl hl.1 rfl (lv_room (Nat.le_of_ble_eq_true rfl)) dX7_ifRevised_102 ⟨Nat.le_of_ble_eq_true rfl, Nat.le_of_ble_eq_true rfl⟩)) ?_
                refine W.widen (k := 2) (n := 12) (Nat.le_of_ble_eq_true rfl) (Nat.le_of_ble_eq_true rfl) ?_
                refine vx_ret ?_
                exact W.iret (v := sX1_worksMadeWrong (Os 0) p1 p2) hx hb hr (fun t ht hW => ⟨⟨sX1_worksMadeWrong (Os 0) p1 p2, (), rfl, xr_eq hv, tw ht hT⟩, hS.F ht⟩) hS.2.2 dX7_ifRevised_105 (hlocks := hlocks)
              · have hv := (if_neg c58_1).symm.trans hv
                by_cases c58_2 : p3 = 2
                · have hv := (if_pos c58_2).symm.trans hv
                  refine lv_tableIn (off := 48) (tgt := 106) hx hb dX7_ifRevised_58 (by rw [c58_2]; decide) (by rw [c58_2]; decide) (by rw [c58_2]; rfl) (by decide) ?_
                  refine lv_aload_n hx hb dX7_ifRevised_106 rfl (lv_at hl 0 rfl) ?_
                  refine va_get (D := D) (ci := 7) (v := .ref (A 0 0)) (C := RX7) (T := TX7) (N := 5) hx hb hts iw_X7 hown hK hT.1 0 rfl rfl 1 (by decide) (hts _ w_fl_X7_19) (fun _ h9 => h9) rfl dX7_ifRevised_107 ?_
                  refine va_getN (D := D) (ci := 1) (v := .ref (A 0 1)) (C := RX1) (T := TX1) (N := 6) hx hb hts iw_X1 hown hK (hT.2 0 (by decide)) 0 rfl rfl 0 (by decide) (va_Nw.use rfl (hE.2.2 (105, "sheets", "LTrueSheets$Sheets;") (List.mem_of_getElem? (i := 0) rfl))) (fun _ h9 => h9) rfl dX7_ifRevised_110 ?_
                  refine lv_iload_n hx hb dX7_ifRevised_113 rfl (lv_at hl 1 rfl) ?_
                  refine ro_i (sX4_aboveNotToCheck (Os 0) p1) (run_c (va_runV (As := [.int p1]) (rest := []) ⟨hx, hb, hml, hown, hts⟩ (c_X4_aboveNotToCheck l D cs (A 0) (Os 0) p1) (cwV 1 hts (good_V w_ml_X7_228 w_im_X4_aboveNotToCheck w_se_X4_aboveNotToCheck w_in_X4 w_co_X4_aboveNotToCheck) rfl rfl rfl ⟨rfl, hd_X4_aboveNotToCheck⟩ ⟨Nat.le_of_ble_eq_true rfl, Nat.le_of_ble_eq_true rfl⟩) (pe_W (C := RX4) (T := TX4) (N := 5) (ci := 4) (q0 := 1) (hT.2 0 (by decide)) hE rfl rfl) rfl rfl hl.1 rfl (lv_room (Nat.le_of_ble_eq_true rfl)) dX7_ifRevised_114 ⟨Nat.le_of_ble_eq_true rfl, Nat.le_of_ble_eq_true rfl⟩)) ?_
                  refine W.widen (k := 2) (n := 12) (Nat.le_of_ble_eq_true rfl) (Nat.le_of_ble_eq_true rfl) ?_
                  refine vx_ret ?_
                  exact W.iret (v := sX4_aboveNotToCheck (Os 0) p1) hx hb hr (fun t ht hW => ⟨⟨sX4_aboveNotToCheck (Os 0) p1, (), rfl, xr_eq hv, tw ht hT⟩, hS.F ht⟩) hS.2.2 dX7_ifRevised_117 (hlocks := hlocks)
                · have hv := (if_neg c58_2).symm.trans hv
                  have e0 : p3.toInt ≠ 0 := sw_ne c58_0
                  have e1 : p3.toInt ≠ 1 := sw_ne c58_1
                  have e2 : p3.toInt ≠ 2 := sw_ne c58_2
                  refine lv_tableOut (tgt := 118) hx hb dX7_ifRevised_58 (by omega) (by decide) ?_
                  refine lv_aload_n hx hb dX7_ifRevised_118 rfl (lv_at hl 0 rfl) ?_
                  refine va_get (D := D) (ci := 7) (v := .ref (A 0 0)) (C := RX7) (T := TX7) (N := 5) hx hb hts iw_X7 hown hK hT.1 0 rfl rfl 1 (by decide) (hts _ w_fl_X7_19) (fun _ h9 => h9) rfl dX7_ifRevised_119 ?_
                  refine lv_iload_n hx hb dX7_ifRevised_122 rfl (lv_at hl 1 rfl) ?_
                  refine ro_i (sX1_sitesWithTruePrint (Os 0) p1) (run_c (va_runV (As := [.int p1]) (rest := []) ⟨hx, hb, hml, hown, hts⟩ (c_X1_sitesWithTruePrint l D cs (A 0) (Os 0) p1) (cwV 1 hts (good_V w_ml_X7_231 w_im_X1_sitesWithTruePrint w_se_X1_sitesWithTruePrint w_in_X1 w_co_X1_sitesWithTruePrint) rfl rfl rfl ⟨rfl, hd_X1_sitesWithTruePrint⟩ ⟨Nat.le_of_ble_eq_true rfl, Nat.le_of_ble_eq_true rfl⟩) (pe_W (C := RX1) (T := TX1) (N := 6) (ci := 1) (q0 := 0) (hT.2 0 (by decide)) hE rfl rfl) rfl rfl hl.1 rfl (lv_room (Nat.le_of_ble_eq_true rfl)) dX7_ifRevised_123 ⟨Nat.le_of_ble_eq_true rfl, Nat.le_of_ble_eq_true rfl⟩)) ?_
                  refine W.widen (k := 2) (n := 12) (Nat.le_of_ble_eq_true rfl) (Nat.le_of_ble_eq_true rfl) ?_
                  refine vx_ret ?_
                  exact W.iret (v := sX1_sitesWithTruePrint (Os 0) p1) hx hb hr (fun t ht hW => ⟨⟨sX1_sitesWithTruePrint (Os 0) p1, (), rfl, xr_eq hv, tw ht hT⟩, hS.F ht⟩) hS.2.2 dX7_ifRevised_126 (hlocks := hlocks)
          · have hv := (if_neg c44).symm.trans hv
            obtain ⟨sa, hsa⟩ := hXE.2.2.2.2 (220, "the revision of the sheet is 99") (List.mem_of_getElem? (i := 15) rfl)
            exact thr_2 hx hb hlst hown hts hXE hsa hS (by rw [hml]; exact hl.1) dX7_ifRevised_47 dX7_ifRevised_50 dX7_ifRevised_51 dX7_ifRevised_53 dX7_ifRevised_56 hout (Nat.le_of_ble_eq_true rfl) (Nat.le_of_ble_eq_true rfl) (Nat.le_of_ble_eq_true rfl) (Nat.le_of_ble_eq_true rfl) hlocks (xc_r (k := 2) (by decide) hv hT hS) hS.2.2 (Nat.le_of_ble_eq_true rfl) (Nat.le_of_ble_eq_true rfl)
        · have hv := (if_neg c18).symm.trans hv
          obtain ⟨sa, hsa⟩ := hXE.2.2.2.2 (218, "fields are 1 to 4095, what is 0 to 3") (List.mem_of_getElem? (i := 14) rfl)
          exact thr_1 hx hb hlst hown hts hXE hsa hS (by rw [hml]; exact hl.1) dX7_ifRevised_21 dX7_ifRevised_24 dX7_ifRevised_25 dX7_ifRevised_27 dX7_ifRevised_30 hout (Nat.le_of_ble_eq_true rfl) (Nat.le_of_ble_eq_true rfl) (Nat.le_of_ble_eq_true rfl) (Nat.le_of_ble_eq_true rfl) hlocks (xc_r (k := 1) (by decide) hv hT hS) hS.2.2 (Nat.le_of_ble_eq_true rfl) (Nat.le_of_ble_eq_true rfl)
theorem hd_X7_coming : yX7_coming.cls ≠ "java/lang/invoke/MethodHandle" ∧ yX7_coming.cls ≠ "java/lang/invoke/VarHandle" ∧ (parseMethodDescriptor yX7_coming.desc).map (fun d => d.parameters.length) = some 1 := by decide +kernel
def sX7_coming (Os : Nat → OF) (T : OF) (p1 : Int32) : Nat × Int32 := (if (sX7_isDays p1) = true then (0, sX1_costOfNext (Os 0) p1) else (1, 0))
set_option maxHeartbeats 4000000 in
set_option maxRecDepth 100000 in
theorem c_X7_coming (l : Launch) (D : va_G) (cs : Nat → ClassId) (z : Nat → Nat) (A : Nat → Nat → Nat) (adK adV : Nat → Nat) (Os : Nat → OF) (T : OF) (p1 : Int32) (hd : tD z A) (hlst : l.stackTraces = false) : vx_Met l yX7_coming (wc yX7_coming cX7_coming 2 (some .int)) ({ frames := 6, cells := 1, slots := 6, locals := 108 } : Room) (va_Pc [.ref (z 0), .int p1] (TE D cs z A adK adV Os T)) (xrQ D cs z A Os T (sX7_coming Os T p1)) (xrX D cs z A Os T (sX7_coming Os T p1)) 1 6 (tA z A) := by
  obtain ⟨v, hv⟩ : ∃ v, sX7_coming Os T p1 = v := ⟨_, rfl⟩
  rw [hv]
  refine met_x (lv := [(0, .ref (z 0)), (1, .int p1)]) (by decide) (Nat.le_of_ble_eq_true rfl) rfl ?_
  intro p e s m args below meth c ls hx hb hr hml hts hown hlocks hout hB0 hl
  obtain ⟨⟨hT, hE⟩, hXE⟩ := hB0
  have hown : s.vm.findClass RX7 = some m.cls := hown
  have hK := hE.1
  have hS : va_S (tA z A) s.heap s.heap [] := va_S.rf
  unfold sX7_coming at hv
  refine lv_iload_n hx hb dX7_coming_0 rfl (lv_at hl 1 rfl) ?_
  refine ro_i (b2i (sX7_isDays p1)) (run_c (va_runS (As := [.int p1]) (rest := []) ⟨hx, hb, hml, hown, hts⟩ (c_X7_isDays l D cs p1) (cwS 1 hts (good_S w_ml_X7_234 w_st_X7_isDays w_in_X7 w_co_X7_isDays) rfl rfl rfl ⟨rfl, hd_X7_isDays⟩ ⟨Nat.le_of_ble_eq_true rfl, Nat.le_of_ble_eq_true rfl⟩) (pe_S (p_nil D _) hE) rfl rfl hl.1 rfl (lv_room (Nat.le_of_ble_eq_true rfl)) dX7_coming_1 ⟨Nat.le_of_ble_eq_true rfl, Nat.le_of_ble_eq_true rfl⟩)) ?_
  refine lv_if_ne (tgt := 17) hx hb dX7_coming_4 (by decide) (fun c4 => ?_) (fun c4 => ?_)
  · have c4 := b2i_t c4
    have hv := (if_pos c4).symm.trans hv
    refine lv_aload_n hx hb dX7_coming_17 rfl (lv_at hl 0 rfl) ?_
    refine va_get (D := D) (ci := 7) (v := .ref (A 0 0)) (C := RX7) (T := TX7) (N := 5) hx hb hts iw_X7 hown hK hT.1 0 rfl rfl 1 (by decide) (hts _ w_fl_X7_19) (fun _ h9 => h9) rfl dX7_coming_18 ?_
    refine lv_iload_n hx hb dX7_coming_21 rfl (lv_at hl 1 rfl) ?_
    refine ro_i (sX1_costOfNext (Os 0) p1) (run_c (va_runV (As := [.int p1]) (rest := []) ⟨hx, hb, hml, hown, hts⟩ (c_X1_costOfNext l D cs (A 0) (Os 0) p1) (cwV 1 hts (good_V w_ml_X7_239 w_im_X1_costOfNext w_se_X1_costOfNext w_in_X1 w_co_X1_costOfNext) rfl rfl rfl ⟨rfl, hd_X1_costOfNext⟩ ⟨Nat.le_of_ble_eq_true rfl, Nat.le_of_ble_eq_true rfl⟩) (pe_W (C := RX1) (T := TX1) (N := 6) (ci := 1) (q0 := 0) (hT.2 0 (by decide)) hE rfl rfl) rfl rfl hl.1 rfl (lv_room (Nat.le_of_ble_eq_true rfl)) dX7_coming_22 ⟨Nat.le_of_ble_eq_true rfl, Nat.le_of_ble_eq_true rfl⟩)) ?_
    refine W.widen (k := 1) (n := 6) (Nat.le_of_ble_eq_true rfl) (Nat.le_of_ble_eq_true rfl) ?_
    refine vx_ret ?_
    exact W.iret (v := sX1_costOfNext (Os 0) p1) hx hb hr (fun t ht hW => ⟨⟨sX1_costOfNext (Os 0) p1, (), rfl, xr_eq hv, tw ht hT⟩, hS.F ht⟩) hS.2.2 dX7_coming_25 (hlocks := hlocks)
  · have c4 := b2i_f c4
    have hv := (if_neg c4).symm.trans hv
    obtain ⟨sa, hsa⟩ := hXE.2.2.2.2 (237, "the days are 1 to 30") (List.mem_of_getElem? (i := 16) rfl)
    exact thr_1 hx hb hlst hown hts hXE hsa hS (by rw [hml]; exact hl.1) dX7_coming_7 dX7_coming_10 dX7_coming_11 dX7_coming_13 dX7_coming_16 hout (Nat.le_of_ble_eq_true rfl) (Nat.le_of_ble_eq_true rfl) (Nat.le_of_ble_eq_true rfl) (Nat.le_of_ble_eq_true rfl) hlocks (xc_r (k := 1) (by decide) hv hT hS) hS.2.2 (Nat.le_of_ble_eq_true rfl) (Nat.le_of_ble_eq_true rfl)
theorem hd_X7_fetch : yX7_fetch.cls ≠ "java/lang/invoke/MethodHandle" ∧ yX7_fetch.cls ≠ "java/lang/invoke/VarHandle" ∧ (parseMethodDescriptor yX7_fetch.desc).map (fun d => d.parameters.length) = some 1 := by decide +kernel
def sX7_fetch (Os : Nat → OF) (T : OF) (p1 : Int32) : Nat × Int32 := (if 0 ≤ p1 then (0, sX3_toFetch (Os 0) p1) else (1, 0))
set_option maxHeartbeats 4000000 in
set_option maxRecDepth 100000 in
theorem c_X7_fetch (l : Launch) (D : va_G) (cs : Nat → ClassId) (z : Nat → Nat) (A : Nat → Nat → Nat) (adK adV : Nat → Nat) (Os : Nat → OF) (T : OF) (p1 : Int32) (hd : tD z A) (hlst : l.stackTraces = false) : vx_Met l yX7_fetch (wc yX7_fetch cX7_fetch 2 (some .int)) ({ frames := 6, cells := 1, slots := 6, locals := 109 } : Room) (va_Pc [.ref (z 0), .int p1] (TE D cs z A adK adV Os T)) (xrQ D cs z A Os T (sX7_fetch Os T p1)) (xrX D cs z A Os T (sX7_fetch Os T p1)) 1 6 (tA z A) := by
  obtain ⟨v, hv⟩ : ∃ v, sX7_fetch Os T p1 = v := ⟨_, rfl⟩
  rw [hv]
  refine met_x (lv := [(0, .ref (z 0)), (1, .int p1)]) (by decide) (Nat.le_of_ble_eq_true rfl) rfl ?_
  intro p e s m args below meth c ls hx hb hr hml hts hown hlocks hout hB0 hl
  obtain ⟨⟨hT, hE⟩, hXE⟩ := hB0
  have hown : s.vm.findClass RX7 = some m.cls := hown
  have hK := hE.1
  have hS : va_S (tA z A) s.heap s.heap [] := va_S.rf
  unfold sX7_fetch at hv
  refine lv_iload_n hx hb dX7_fetch_0 rfl (lv_at hl 1 rfl) ?_
  refine lv_if_ge (tgt := 14) hx hb dX7_fetch_1 (by decide) (fun c1 => ?_) (fun c1 => ?_)
  · have hv := (if_pos c1).symm.trans hv
    refine lv_aload_n hx hb dX7_fetch_14 rfl (lv_at hl 0 rfl) ?_
    refine va_get (D := D) (ci := 7) (v := .ref (A 0 0)) (C := RX7) (T := TX7) (N := 5) hx hb hts iw_X7 hown hK hT.1 0 rfl rfl 1 (by decide) (hts _ w_fl_X7_19) (fun _ h9 => h9) rfl dX7_fetch_15 ?_
    refine va_getN (D := D) (ci := 1) (v := .ref (A 0 2)) (C := RX1) (T := TX1) (N := 6) hx hb hts iw_X1 hown hK (hT.2 0 (by decide)) 0 rfl rfl 1 (by decide) (va_Nw.use rfl (hE.2.2 (123, "prints", "LTrueSheets$Prints;") (List.mem_of_getElem? (i := 1) rfl))) (fun _ h9 => h9) rfl dX7_fetch_18 ?_
    refine lv_iload_n hx hb dX7_fetch_21 rfl (lv_at hl 1 rfl) ?_
    refine ro_i (sX3_toFetch (Os 0) p1) (run_c (va_runV (As := [.int p1]) (rest := []) ⟨hx, hb, hml, hown, hts⟩ (c_X3_toFetch l D cs (A 0) (Os 0) p1) (cwV 1 hts (good_V w_ml_X7_244 w_im_X3_toFetch w_se_X3_toFetch w_in_X3 w_co_X3_toFetch) rfl rfl rfl ⟨rfl, hd_X3_toFetch⟩ ⟨Nat.le_of_ble_eq_true rfl, Nat.le_of_ble_eq_true rfl⟩) (pe_W (C := RX3) (T := TX3) (N := 8) (ci := 3) (q0 := 2) (hT.2 0 (by decide)) hE rfl rfl) rfl rfl hl.1 rfl (lv_room (Nat.le_of_ble_eq_true rfl)) dX7_fetch_22 ⟨Nat.le_of_ble_eq_true rfl, Nat.le_of_ble_eq_true rfl⟩)) ?_
    refine W.widen (k := 1) (n := 6) (Nat.le_of_ble_eq_true rfl) (Nat.le_of_ble_eq_true rfl) ?_
    refine vx_ret ?_
    exact W.iret (v := sX3_toFetch (Os 0) p1) hx hb hr (fun t ht hW => ⟨⟨sX3_toFetch (Os 0) p1, (), rfl, xr_eq hv, tw ht hT⟩, hS.F ht⟩) hS.2.2 dX7_fetch_25 (hlocks := hlocks)
  · have hv := (if_neg c1).symm.trans hv
    obtain ⟨sa, hsa⟩ := hXE.2.2.2.2 (242, "k is 0 or more") (List.mem_of_getElem? (i := 17) rfl)
    exact thr_1 hx hb hlst hown hts hXE hsa hS (by rw [hml]; exact hl.1) dX7_fetch_4 dX7_fetch_7 dX7_fetch_8 dX7_fetch_10 dX7_fetch_13 hout (Nat.le_of_ble_eq_true rfl) (Nat.le_of_ble_eq_true rfl) (Nat.le_of_ble_eq_true rfl) (Nat.le_of_ble_eq_true rfl) hlocks (xc_r (k := 1) (by decide) hv hT hS) hS.2.2 (Nat.le_of_ble_eq_true rfl) (Nat.le_of_ble_eq_true rfl)
theorem hd_X7_worst : yX7_worst.cls ≠ "java/lang/invoke/MethodHandle" ∧ yX7_worst.cls ≠ "java/lang/invoke/VarHandle" ∧ (parseMethodDescriptor yX7_worst.desc).map (fun d => d.parameters.length) = some 0 := by decide +kernel
def sX7_worst (Os : Nat → OF) (T : OF) : Int32 := sX1_worstSite (Os 0)
set_option maxHeartbeats 4000000 in
set_option maxRecDepth 100000 in
theorem c_X7_worst (l : Launch) (D : va_G) (cs : Nat → ClassId) (z : Nat → Nat) (A : Nat → Nat → Nat) (adK adV : Nat → Nat) (Os : Nat → OF) (T : OF) (hd : tD z A) : Met l yX7_worst (wc yX7_worst cX7_worst 1 (some .int)) ({ frames := 6, cells := 0, slots := 0, locals := 135 } : Room) (va_Pc [.ref (z 0)] (TE D cs z A adK adV Os T)) (vp_Si (fun r9 => r9 = (sX7_worst Os T))) 0 0 (fun _ => False) := by
  obtain ⟨v, hv⟩ : ∃ v, sX7_worst Os T = v := ⟨_, rfl⟩
  rw [hv]
  refine met_g (lv := [(0, .ref (z 0))]) (by decide) (Nat.le_of_ble_eq_true rfl) rfl ?_
  intro p e s m args below meth c ls hx hb hr hml hts hown hlocks hin hB0 hl
  obtain ⟨⟨hT, hE⟩, hXE⟩ := hB0
  have hown : s.vm.findClass RX7 = some m.cls := hown
  have hK := hE.1
  have hS : va_S (tA z A) s.heap s.heap [] := va_S.rf
  unfold sX7_worst at hv
  refine lv_aload_n hx hb dX7_worst_0 rfl (lv_at hl 0 rfl) ?_
  refine va_get (D := D) (ci := 7) (v := .ref (A 0 0)) (C := RX7) (T := TX7) (N := 5) hx hb hts iw_X7 hown hK hT.1 0 rfl rfl 1 (by decide) (hts _ w_fl_X7_19) (fun _ h9 => h9) rfl dX7_worst_1 ?_
  refine ro_i (sX1_worstSite (Os 0)) (run_c (va_runV (As := []) (rest := []) ⟨hx, hb, hml, hown, hts⟩ (c_X1_worstSite l D cs (A 0) (Os 0)) (cwV 0 hts (good_V w_ml_X7_247 w_im_X1_worstSite w_se_X1_worstSite w_in_X1 w_co_X1_worstSite) rfl rfl rfl ⟨rfl, hd_X1_worstSite⟩ ⟨Nat.le_of_ble_eq_true rfl, Nat.le_of_ble_eq_true rfl⟩) (pe_W (C := RX1) (T := TX1) (N := 6) (ci := 1) (q0 := 0) (hT.2 0 (by decide)) hE rfl rfl) rfl rfl hl.1 rfl (lv_room (Nat.le_of_ble_eq_true rfl)) dX7_worst_4 ⟨Nat.le_of_ble_eq_true rfl, Nat.le_of_ble_eq_true rfl⟩)) ?_
  exact W.iret (v := sX1_worstSite (Os 0)) hx hb hr (fun t ht hW => ⟨sX1_worstSite (Os 0), rfl, hv, ht⟩) (fun _ h => nomatch h) dX7_worst_7 (hlocks := hlocks)
theorem hd_X7_common : yX7_common.cls ≠ "java/lang/invoke/MethodHandle" ∧ yX7_common.cls ≠ "java/lang/invoke/VarHandle" ∧ (parseMethodDescriptor yX7_common.desc).map (fun d => d.parameters.length) = some 2 := by decide +kernel
def sX7_common (Os : Nat → OF) (T : OF) (p1 : Int32) (p2 : Int32) : Nat × Int32 := (if (sX7_needSheet Os T p1) = 0 then (if (sX7_needSheet Os T p2) = 0 then (0, sX4_lowestOverBoth (Os 0) p1 p2) else ((sX7_needSheet Os T p2), 0)) else ((sX7_needSheet Os T p1), 0))
set_option maxHeartbeats 4000000 in
set_option maxRecDepth 100000 in
theorem c_X7_common (l : Launch) (D : va_G) (cs : Nat → ClassId) (z : Nat → Nat) (A : Nat → Nat → Nat) (adK adV : Nat → Nat) (Os : Nat → OF) (T : OF) (p1 : Int32) (p2 : Int32) (hd : tD z A) (hlst : l.stackTraces = false) : vx_Met l yX7_common (wc yX7_common cX7_common 3 (some .int)) ({ frames := 7, cells := 2, slots := 12, locals := 103 } : Room) (va_Pc [.ref (z 0), .int p1, .int p2] (TE D cs z A adK adV Os T)) (xrQ D cs z A Os T (sX7_common Os T p1 p2)) (xrX D cs z A Os T (sX7_common Os T p1 p2)) 2 12 (tA z A) := by
  obtain ⟨v, hv⟩ : ∃ v, sX7_common Os T p1 p2 = v := ⟨_, rfl⟩
  rw [hv]
  refine met_x (lv := [(0, .ref (z 0)), (1, .int p1), (2, .int p2)]) (by decide) (Nat.le_of_ble_eq_true rfl) rfl ?_
  intro p e s m args below meth c ls hx hb hr hml hts hown hlocks hout hB0 hl
  obtain ⟨⟨hT, hE⟩, hXE⟩ := hB0
  have hown : s.vm.findClass RX7 = some m.cls := hown
  have hK := hE.1
  have hS : va_S (tA z A) s.heap s.heap [] := va_S.rf
  unfold sX7_common at hv
  refine lv_aload_n hx hb dX7_common_0 rfl (lv_at hl 0 rfl) ?_
  refine lv_iload_n hx hb dX7_common_1 rfl (lv_at hl 1 rfl) ?_
  refine x_n (sX7_needSheet Os T p1) (vx_runV (As := [.int p1]) (rest := []) ⟨hx, hb, hml, hown, hts⟩ (c_X7_needSheet l D cs z A adK adV Os T p1 hd hlst) (cwV 1 hts (good_V w_ml_X7_86 w_im_X7_needSheet w_se_X7_needSheet w_in_X7 w_co_X7_needSheet) rfl rfl rfl ⟨rfl, hd_X7_needSheet⟩ ⟨Nat.le_of_ble_eq_true rfl, Nat.le_of_ble_eq_true rfl⟩) (te_V (C := RX7) (T9 := TX7) (N := 5) (ci := 7) (q0 := 0) hT hE hXE hS rfl rfl) rfl rfl hl.1 rfl (lv_room (Nat.le_of_ble_eq_true rfl)) dX7_common_2 ⟨Nat.le_of_ble_eq_true rfl, Nat.le_of_ble_eq_true rfl⟩) hS (fun _ _ h => h) (fun _ h => h) (fun c2 ce q9 t locs hT hz hk hS e1 e2 e3 => ?_) (fun c2 t locs hT hz hk hS => ?_)
  · have hv := (if_neg c2).symm.trans hv
    exact x_out hout hlocks e1 e2 e3 (xc_r (k := (sX7_needSheet Os T p1)) c2 hv hT hS) hS.2.2 (Nat.le_of_ble_eq_true rfl) (Nat.le_of_ble_eq_true rfl)
  · have hv := (if_pos c2).symm.trans hv
    refine lv_aload_n hx hb dX7_common_5 rfl (lv_at hl 0 rfl) ?_
    refine lv_iload_n hx hb dX7_common_6 rfl (lv_at hl 2 rfl) ?_
    refine x_n (sX7_needSheet Os T p2) (vx_runV (As := [.int p2]) (rest := []) ⟨hx, hb, hml, hown, hts⟩ (c_X7_needSheet l D cs z A adK adV Os T p2 hd hlst) (cwV 1 hts (good_V w_ml_X7_86 w_im_X7_needSheet w_se_X7_needSheet w_in_X7 w_co_X7_needSheet) rfl rfl rfl ⟨rfl, hd_X7_needSheet⟩ ⟨Nat.le_of_ble_eq_true rfl, Nat.le_of_ble_eq_true rfl⟩) (te_V (C := RX7) (T9 := TX7) (N := 5) (ci := 7) (q0 := 0) hT hE hXE hS rfl rfl) rfl rfl hl.1 rfl (lv_room (Nat.le_of_ble_eq_true rfl)) dX7_common_7 ⟨Nat.le_of_ble_eq_true rfl, Nat.le_of_ble_eq_true rfl⟩) hS (fun _ _ h => h) (fun _ h => h) (fun c7 ce q9 t locs hT hz hk hS e1 e2 e3 => ?_) (fun c7 t locs hT hz hk hS => ?_)
    · have hv := (if_neg c7).symm.trans hv
      exact x_out hout hlocks e1 e2 e3 (xc_r (k := (sX7_needSheet Os T p2)) c7 hv hT hS) hS.2.2 (Nat.le_of_ble_eq_true rfl) (Nat.le_of_ble_eq_true rfl)
    · have hv := (if_pos c7).symm.trans hv
      refine lv_aload_n hx hb dX7_common_10 rfl (lv_at hl 0 rfl) ?_
      refine va_get (D := D) (ci := 7) (v := .ref (A 0 0)) (C := RX7) (T := TX7) (N := 5) hx hb hts iw_X7 hown hK hT.1 0 rfl rfl 1 (by decide) (hts _ w_fl_X7_19) (fun _ h9 => h9) rfl dX7_common_11 ?_
      refine va_getN (D := D) (ci := 1) (v := .ref (A 0 1)) (C := RX1) (T := TX1) (N := 6) hx hb hts iw_X1 hown hK (hT.2 0 (by decide)) 0 rfl rfl 0 (by decide) (va_Nw.use rfl (hE.2.2 (105, "sheets", "LTrueSheets$Sheets;") (List.mem_of_getElem? (i := 0) rfl))) (fun _ h9 => h9) rfl dX7_common_14 ?_
      refine lv_iload_n hx hb dX7_common_17 rfl (lv_at hl 1 rfl) ?_
      refine lv_iload_n hx hb dX7_common_18 rfl (lv_at hl 2 rfl) ?_
      refine ro_i (sX4_lowestOverBoth (Os 0) p1 p2) (run_c (va_runV (As := [.int p1, .int p2]) (rest := []) ⟨hx, hb, hml, hown, hts⟩ (c_X4_lowestOverBoth l D cs (A 0) (Os 0) p1 p2) (cwV 2 hts (good_V w_ml_X7_250 w_im_X4_lowestOverBoth w_se_X4_lowestOverBoth w_in_X4 w_co_X4_lowestOverBoth) rfl rfl rfl ⟨rfl, hd_X4_lowestOverBoth⟩ ⟨Nat.le_of_ble_eq_true rfl, Nat.le_of_ble_eq_true rfl⟩) (pe_W (C := RX4) (T := TX4) (N := 5) (ci := 4) (q0 := 1) (hT.2 0 (by decide)) hE rfl rfl) rfl rfl hl.1 rfl (lv_room (Nat.le_of_ble_eq_true rfl)) dX7_common_19 ⟨Nat.le_of_ble_eq_true rfl, Nat.le_of_ble_eq_true rfl⟩)) ?_
      refine W.widen (k := 2) (n := 12) (Nat.le_of_ble_eq_true rfl) (Nat.le_of_ble_eq_true rfl) ?_
      refine vx_ret ?_
      exact W.iret (v := sX4_lowestOverBoth (Os 0) p1 p2) hx hb hr (fun t ht hW => ⟨⟨sX4_lowestOverBoth (Os 0) p1 p2, (), rfl, xr_eq hv, tw ht hT⟩, hS.F ht⟩) hS.2.2 dX7_common_22 (hlocks := hlocks)
