theorem hd_X3_has : yX3_has.cls ≠ "java/lang/invoke/MethodHandle" ∧ yX3_has.cls ≠ "java/lang/invoke/VarHandle" ∧ (parseMethodDescriptor yX3_has.desc).map (fun d => d.parameters.length) = some 1 := by decide +kernel
def sX3_has (O : OF) (p1 : Int32) : Bool := (if p1 < 0 then false else (if (O.1 2) ≤ p1 then false else (if 24 ≤ p1 then false else true)))
theorem X3_in {O : OF} {p : Int32} (h : sX3_has O p = true) : vp_in p 24 := by
  unfold sX3_has at h
  by_cases h1 : p < 0
  · rw [if_pos h1] at h; exact nomatch h
  rw [if_neg h1] at h
  by_cases h2 : (O.1 2) ≤ p
  · rw [if_pos h2] at h; exact nomatch h
  rw [if_neg h2] at h
  by_cases h3 : 24 ≤ p
  · rw [if_pos h3] at h; exact nomatch h
  exact vp_a rfl h1 h3
set_option maxHeartbeats 4000000 in
set_option maxRecDepth 100000 in
theorem c_X3_has (l : Launch) (D : va_G) (cs : Nat → ClassId) (a : Nat → Nat) (O : OF) (p1 : Int32) : Met l yX3_has (wc yX3_has cX3_has 2 (some .boolean)) ({ frames := 0, cells := 0, slots := 0, locals := 0 } : Room) (va_Pc [.ref (a 2), .int p1] (PE D cs (ofW cs a O))) (vp_Si (fun r9 => r9 = b2i (sX3_has O p1))) 0 0 (fun _ => False) := by
  obtain ⟨v, hv⟩ : ∃ v, sX3_has O p1 = v := ⟨_, rfl⟩
  rw [hv]
  refine met_o (lv := [(0, .ref (a 2)), (1, .int p1)]) (by decide) (Nat.le_of_ble_eq_true rfl) rfl ?_
  intro p e s m args below meth c ls hx hb hr hml hts hown hlocks hin hP hE hl
  have hown : s.vm.findClass RX3 = some m.cls := hown
  have hK := hE.1
  have hP : va_P D vwC (ofW cs a O) s.heap := hP
  unfold sX3_has at hv
  refine lv_iload_n hx hb dX3_has_0 rfl (lv_at hl 1 rfl) ?_
  refine join_i (J := 23) (ls := ls) (rest := []) (b2i (if p1 < 0 then false else (if (O.1 2) ≤ p1 then false else (if 24 ≤ p1 then false else true)))) ?_ (fun hJ => ?_)
  · exact W.zret (ty := .boolean) (v := b2i (if p1 < 0 then false else (if (O.1 2) ≤ p1 then false else (if 24 ≤ p1 then false else true)))) hx hb hr (b2i_nar (if p1 < 0 then false else (if (O.1 2) ≤ p1 then false else (if 24 ≤ p1 then false else true)))) (fun t ht hW => ⟨b2i (if p1 < 0 then false else (if (O.1 2) ≤ p1 then false else (if 24 ≤ p1 then false else true))), rfl, congrArg b2i hv, ht⟩) (fun _ h => nomatch h) dX3_has_23 (hlocks := hlocks)
  · refine lv_if_lt (tgt := 22) hx hb dX3_has_1 (by decide) (fun c1 => ?_) (fun c1 => ?_)
    · refine lv_iconst (v := 0) hx hb dX3_has_22 (by decide) ?_
      exact hJ _ (congrArg b2i ((if_pos c1).trans rfl))
    · refine lv_iload_n hx hb dX3_has_4 rfl (lv_at hl 1 rfl) ?_
      refine lv_aload_n hx hb dX3_has_5 rfl (lv_at hl 0 rfl) ?_
      refine va_get (D := D) (ci := 3) (v := .int (O.1 2)) (C := RX3) (T := TX3) (N := 8) hx hb hts iw_X3 hown hK hP 2 rfl rfl 0 (by decide) (hts _ w_fl_X3_30) (fun _ h9 => h9) rfl dX3_has_6 ?_
      refine lv_icmp_ge (tgt := 22) hx hb dX3_has_9 (by decide) (fun c9 => ?_) (fun c9 => ?_)
      · refine lv_iconst (v := 0) hx hb dX3_has_22 (by decide) ?_
        exact hJ _ (congrArg b2i ((if_neg c1).trans ((if_pos c9).trans rfl)))
      · refine lv_iload_n hx hb dX3_has_12 rfl (lv_at hl 1 rfl) ?_
        refine lv_bipush (v := 24) hx hb dX3_has_13 (by decide) ?_
        refine lv_icmp_ge (tgt := 22) hx hb dX3_has_15 (by decide) (fun c15 => ?_) (fun c15 => ?_)
        · refine lv_iconst (v := 0) hx hb dX3_has_22 (by decide) ?_
          exact hJ _ (congrArg b2i ((if_neg c1).trans ((if_neg c9).trans ((if_pos c15).trans rfl))))
        · refine lv_iconst (v := 1) hx hb dX3_has_18 (by decide) ?_
          refine lv_goto (tgt := 23) hx hb dX3_has_19 (by decide) ?_
          exact hJ _ (congrArg b2i ((if_neg c1).trans ((if_neg c9).trans ((if_neg c15).trans rfl))))
theorem hd_X3_size : yX3_size.cls ≠ "java/lang/invoke/MethodHandle" ∧ yX3_size.cls ≠ "java/lang/invoke/VarHandle" ∧ (parseMethodDescriptor yX3_size.desc).map (fun d => d.parameters.length) = some 0 := by decide +kernel
def sX3_size (O : OF) : Int32 := (O.1 2)
set_option maxHeartbeats 4000000 in
set_option maxRecDepth 100000 in
theorem c_X3_size (l : Launch) (D : va_G) (cs : Nat → ClassId) (a : Nat → Nat) (O : OF) : Met l yX3_size (wc yX3_size cX3_size 1 (some .int)) ({ frames := 0, cells := 0, slots := 0, locals := 0 } : Room) (va_Pc [.ref (a 2)] (PE D cs (ofW cs a O))) (vp_Si (fun r9 => r9 = (sX3_size O))) 0 0 (fun _ => False) := by
  obtain ⟨v, hv⟩ : ∃ v, sX3_size O = v := ⟨_, rfl⟩
  rw [hv]
  refine met_o (lv := [(0, .ref (a 2))]) (by decide) (Nat.le_of_ble_eq_true rfl) rfl ?_
  intro p e s m args below meth c ls hx hb hr hml hts hown hlocks hin hP hE hl
  have hown : s.vm.findClass RX3 = some m.cls := hown
  have hK := hE.1
  have hP : va_P D vwC (ofW cs a O) s.heap := hP
  unfold sX3_size at hv
  refine lv_aload_n hx hb dX3_size_0 rfl (lv_at hl 0 rfl) ?_
  refine va_get (D := D) (ci := 3) (v := .int (O.1 2)) (C := RX3) (T := TX3) (N := 8) hx hb hts iw_X3 hown hK hP 2 rfl rfl 0 (by decide) (hts _ w_fl_X3_30) (fun _ h9 => h9) rfl dX3_size_1 ?_
  exact W.iret (v := (O.1 2)) hx hb hr (fun t ht hW => ⟨(O.1 2), rfl, hv, ht⟩) (fun _ h => nomatch h) dX3_size_4 (hlocks := hlocks)
theorem hd_X3_sheetOf : yX3_sheetOf.cls ≠ "java/lang/invoke/MethodHandle" ∧ yX3_sheetOf.cls ≠ "java/lang/invoke/VarHandle" ∧ (parseMethodDescriptor yX3_sheetOf.desc).map (fun d => d.parameters.length) = some 1 := by decide +kernel
def sX3_sheetOf (O : OF) (p1 : Int32) : Int32 := (if (sX3_has O p1) = true then (O.2 8) p1.toNatClampNeg else (-1 : Int32))
set_option maxHeartbeats 4000000 in
set_option maxRecDepth 100000 in
theorem c_X3_sheetOf (l : Launch) (D : va_G) (cs : Nat → ClassId) (a : Nat → Nat) (O : OF) (p1 : Int32) : Met l yX3_sheetOf (wc yX3_sheetOf cX3_sheetOf 2 (some .int)) ({ frames := 1, cells := 0, slots := 0, locals := 21 } : Room) (va_Pc [.ref (a 2), .int p1] (PE D cs (ofW cs a O))) (vp_Si (fun r9 => r9 = (sX3_sheetOf O p1))) 0 0 (fun _ => False) := by
  obtain ⟨v, hv⟩ : ∃ v, sX3_sheetOf O p1 = v := ⟨_, rfl⟩
  rw [hv]
  refine met_o (lv := [(0, .ref (a 2)), (1, .int p1)]) (by decide) (Nat.le_of_ble_eq_true rfl) rfl ?_
  intro p e s m args below meth c ls hx hb hr hml hts hown hlocks hin hP hE hl
  have hown : s.vm.findClass RX3 = some m.cls := hown
  have hK := hE.1
  have hP : va_P D vwC (ofW cs a O) s.heap := hP
  unfold sX3_sheetOf at hv
  refine lv_aload_n hx hb dX3_sheetOf_0 rfl (lv_at hl 0 rfl) ?_
  refine lv_iload_n hx hb dX3_sheetOf_1 rfl (lv_at hl 1 rfl) ?_
  refine ro_i (b2i (sX3_has O p1)) (run_c (va_runV (As := [.int p1]) (rest := []) ⟨hx, hb, hml, hown, hts⟩ (c_X3_has l D cs a O p1) (cwV 1 hts (good_V w_ml_X3_43 w_im_X3_has w_se_X3_has w_in_X3 w_co_X3_has) rfl rfl rfl ⟨rfl, hd_X3_has⟩ ⟨Nat.le_of_ble_eq_true rfl, Nat.le_of_ble_eq_true rfl⟩) (pe_W (C := RX3) (T := TX3) (N := 8) (ci := 3) (q0 := 2) hP hE rfl rfl) rfl rfl hl.1 rfl (lv_room (Nat.le_of_ble_eq_true rfl)) dX3_sheetOf_2 ⟨Nat.zero_le _, Nat.zero_le _⟩)) ?_
  refine join_i (J := 18) (ls := ls) (rest := []) ((if (sX3_has O p1) = true then (O.2 8) p1.toNatClampNeg else (-1 : Int32))) ?_ (fun hJ => ?_)
  · exact W.iret (v := (if (sX3_has O p1) = true then (O.2 8) p1.toNatClampNeg else (-1 : Int32))) hx hb hr (fun t ht hW => ⟨(if (sX3_has O p1) = true then (O.2 8) p1.toNatClampNeg else (-1 : Int32)), rfl, hv, ht⟩) (fun _ h => nomatch h) dX3_sheetOf_18 (hlocks := hlocks)
  · refine lv_if_eq (tgt := 17) hx hb dX3_sheetOf_5 (by decide) (fun c5 => ?_) (fun c5 => ?_)
    · have c5 := b2i_f c5
      refine lv_iconst (v := (-1)) hx hb dX3_sheetOf_17 (by decide) ?_
      exact hJ _ ((if_neg c5).trans rfl)
    · have c5 := b2i_t c5
      refine lv_aload_n hx hb dX3_sheetOf_8 rfl (lv_at hl 0 rfl) ?_
      refine va_get (D := D) (ci := 3) (v := .ref (a 8)) (C := RX3) (T := TX3) (N := 8) hx hb hts iw_X3 hown hK hP 2 rfl rfl 2 (by decide) (hts _ w_fl_X3_9) (fun _ h9 => h9) rfl dX3_sheetOf_9 ?_
      refine lv_iload_n hx hb dX3_sheetOf_12 rfl (lv_at hl 1 rfl) ?_
      refine va_iald (cA := cs 0) (n := 24) (f := (O.2 8)) hx hb hK hP 8 0 rfl rfl (by first | exact X3_in (by assumption) | exact in_X7_isSetting (by assumption)) dX3_sheetOf_13 ?_
      refine lv_goto (tgt := 18) hx hb dX3_sheetOf_14 (by decide) ?_
      exact hJ _ ((if_pos c5).trans rfl)
theorem hd_X3_revisionOf : yX3_revisionOf.cls ≠ "java/lang/invoke/MethodHandle" ∧ yX3_revisionOf.cls ≠ "java/lang/invoke/VarHandle" ∧ (parseMethodDescriptor yX3_revisionOf.desc).map (fun d => d.parameters.length) = some 1 := by decide +kernel
def sX3_revisionOf (O : OF) (p1 : Int32) : Int32 := (if (sX3_has O p1) = true then (O.2 9) p1.toNatClampNeg else (-1 : Int32))
set_option maxHeartbeats 4000000 in
set_option maxRecDepth 100000 in
theorem c_X3_revisionOf (l : Launch) (D : va_G) (cs : Nat → ClassId) (a : Nat → Nat) (O : OF) (p1 : Int32) : Met l yX3_revisionOf (wc yX3_revisionOf cX3_revisionOf 2 (some .int)) ({ frames := 1, cells := 0, slots := 0, locals := 21 } : Room) (va_Pc [.ref (a 2), .int p1] (PE D cs (ofW cs a O))) (vp_Si (fun r9 => r9 = (sX3_revisionOf O p1))) 0 0 (fun _ => False) := by
  obtain ⟨v, hv⟩ : ∃ v, sX3_revisionOf O p1 = v := ⟨_, rfl⟩
  rw [hv]
  refine met_o (lv := [(0, .ref (a 2)), (1, .int p1)]) (by decide) (Nat.le_of_ble_eq_true rfl) rfl ?_
  intro p e s m args below meth c ls hx hb hr hml hts hown hlocks hin hP hE hl
  have hown : s.vm.findClass RX3 = some m.cls := hown
  have hK := hE.1
  have hP : va_P D vwC (ofW cs a O) s.heap := hP
  unfold sX3_revisionOf at hv
  refine lv_aload_n hx hb dX3_revisionOf_0 rfl (lv_at hl 0 rfl) ?_
  refine lv_iload_n hx hb dX3_revisionOf_1 rfl (lv_at hl 1 rfl) ?_
  refine ro_i (b2i (sX3_has O p1)) (run_c (va_runV (As := [.int p1]) (rest := []) ⟨hx, hb, hml, hown, hts⟩ (c_X3_has l D cs a O p1) (cwV 1 hts (good_V w_ml_X3_43 w_im_X3_has w_se_X3_has w_in_X3 w_co_X3_has) rfl rfl rfl ⟨rfl, hd_X3_has⟩ ⟨Nat.le_of_ble_eq_true rfl, Nat.le_of_ble_eq_true rfl⟩) (pe_W (C := RX3) (T := TX3) (N := 8) (ci := 3) (q0 := 2) hP hE rfl rfl) rfl rfl hl.1 rfl (lv_room (Nat.le_of_ble_eq_true rfl)) dX3_revisionOf_2 ⟨Nat.zero_le _, Nat.zero_le _⟩)) ?_
  refine join_i (J := 18) (ls := ls) (rest := []) ((if (sX3_has O p1) = true then (O.2 9) p1.toNatClampNeg else (-1 : Int32))) ?_ (fun hJ => ?_)
  · exact W.iret (v := (if (sX3_has O p1) = true then (O.2 9) p1.toNatClampNeg else (-1 : Int32))) hx hb hr (fun t ht hW => ⟨(if (sX3_has O p1) = true then (O.2 9) p1.toNatClampNeg else (-1 : Int32)), rfl, hv, ht⟩) (fun _ h => nomatch h) dX3_revisionOf_18 (hlocks := hlocks)
  · refine lv_if_eq (tgt := 17) hx hb dX3_revisionOf_5 (by decide) (fun c5 => ?_) (fun c5 => ?_)
    · have c5 := b2i_f c5
      refine lv_iconst (v := (-1)) hx hb dX3_revisionOf_17 (by decide) ?_
      exact hJ _ ((if_neg c5).trans rfl)
    · have c5 := b2i_t c5
      refine lv_aload_n hx hb dX3_revisionOf_8 rfl (lv_at hl 0 rfl) ?_
      refine va_get (D := D) (ci := 3) (v := .ref (a 9)) (C := RX3) (T := TX3) (N := 8) hx hb hts iw_X3 hown hK hP 2 rfl rfl 3 (by decide) (hts _ w_fl_X3_15) (fun _ h9 => h9) rfl dX3_revisionOf_9 ?_
      refine lv_iload_n hx hb dX3_revisionOf_12 rfl (lv_at hl 1 rfl) ?_
      refine va_iald (cA := cs 0) (n := 24) (f := (O.2 9)) hx hb hK hP 9 0 rfl rfl (by first | exact X3_in (by assumption) | exact in_X7_isSetting (by assumption)) dX3_revisionOf_13 ?_
      refine lv_goto (tgt := 18) hx hb dX3_revisionOf_14 (by decide) ?_
      exact hJ _ ((if_pos c5).trans rfl)
theorem hd_X3_siteOf : yX3_siteOf.cls ≠ "java/lang/invoke/MethodHandle" ∧ yX3_siteOf.cls ≠ "java/lang/invoke/VarHandle" ∧ (parseMethodDescriptor yX3_siteOf.desc).map (fun d => d.parameters.length) = some 1 := by decide +kernel
def sX3_siteOf (O : OF) (p1 : Int32) : Int32 := (if (sX3_has O p1) = true then (O.2 10) p1.toNatClampNeg else (-1 : Int32))
set_option maxHeartbeats 4000000 in
set_option maxRecDepth 100000 in
theorem c_X3_siteOf (l : Launch) (D : va_G) (cs : Nat → ClassId) (a : Nat → Nat) (O : OF) (p1 : Int32) : Met l yX3_siteOf (wc yX3_siteOf cX3_siteOf 2 (some .int)) ({ frames := 1, cells := 0, slots := 0, locals := 21 } : Room) (va_Pc [.ref (a 2), .int p1] (PE D cs (ofW cs a O))) (vp_Si (fun r9 => r9 = (sX3_siteOf O p1))) 0 0 (fun _ => False) := by
  obtain ⟨v, hv⟩ : ∃ v, sX3_siteOf O p1 = v := ⟨_, rfl⟩
  rw [hv]
  refine met_o (lv := [(0, .ref (a 2)), (1, .int p1)]) (by decide) (Nat.le_of_ble_eq_true rfl) rfl ?_
  intro p e s m args below meth c ls hx hb hr hml hts hown hlocks hin hP hE hl
  have hown : s.vm.findClass RX3 = some m.cls := hown
  have hK := hE.1
  have hP : va_P D vwC (ofW cs a O) s.heap := hP
  unfold sX3_siteOf at hv
  refine lv_aload_n hx hb dX3_siteOf_0 rfl (lv_at hl 0 rfl) ?_
  refine lv_iload_n hx hb dX3_siteOf_1 rfl (lv_at hl 1 rfl) ?_
  refine ro_i (b2i (sX3_has O p1)) (run_c (va_runV (As := [.int p1]) (rest := []) ⟨hx, hb, hml, hown, hts⟩ (c_X3_has l D cs a O p1) (cwV 1 hts (good_V w_ml_X3_43 w_im_X3_has w_se_X3_has w_in_X3 w_co_X3_has) rfl rfl rfl ⟨rfl, hd_X3_has⟩ ⟨Nat.le_of_ble_eq_true rfl, Nat.le_of_ble_eq_true rfl⟩) (pe_W (C := RX3) (T := TX3) (N := 8) (ci := 3) (q0 := 2) hP hE rfl rfl) rfl rfl hl.1 rfl (lv_room (Nat.le_of_ble_eq_true rfl)) dX3_siteOf_2 ⟨Nat.zero_le _, Nat.zero_le _⟩)) ?_
  refine join_i (J := 18) (ls := ls) (rest := []) ((if (sX3_has O p1) = true then (O.2 10) p1.toNatClampNeg else (-1 : Int32))) ?_ (fun hJ => ?_)
  · exact W.iret (v := (if (sX3_has O p1) = true then (O.2 10) p1.toNatClampNeg else (-1 : Int32))) hx hb hr (fun t ht hW => ⟨(if (sX3_has O p1) = true then (O.2 10) p1.toNatClampNeg else (-1 : Int32)), rfl, hv, ht⟩) (fun _ h => nomatch h) dX3_siteOf_18 (hlocks := hlocks)
  · refine lv_if_eq (tgt := 17) hx hb dX3_siteOf_5 (by decide) (fun c5 => ?_) (fun c5 => ?_)
    · have c5 := b2i_f c5
      refine lv_iconst (v := (-1)) hx hb dX3_siteOf_17 (by decide) ?_
      exact hJ _ ((if_neg c5).trans rfl)
    · have c5 := b2i_t c5
      refine lv_aload_n hx hb dX3_siteOf_8 rfl (lv_at hl 0 rfl) ?_
      refine va_get (D := D) (ci := 3) (v := .ref (a 10)) (C := RX3) (T := TX3) (N := 8) hx hb hts iw_X3 hown hK hP 2 rfl rfl 4 (by decide) (hts _ w_fl_X3_18) (fun _ h9 => h9) rfl dX3_siteOf_9 ?_
      refine lv_iload_n hx hb dX3_siteOf_12 rfl (lv_at hl 1 rfl) ?_
      refine va_iald (cA := cs 0) (n := 24) (f := (O.2 10)) hx hb hK hP 10 0 rfl rfl (by first | exact X3_in (by assumption) | exact in_X7_isSetting (by assumption)) dX3_siteOf_13 ?_
      refine lv_goto (tgt := 18) hx hb dX3_siteOf_14 (by decide) ?_
      exact hJ _ ((if_pos c5).trans rfl)
theorem hd_X3_dayOf : yX3_dayOf.cls ≠ "java/lang/invoke/MethodHandle" ∧ yX3_dayOf.cls ≠ "java/lang/invoke/VarHandle" ∧ (parseMethodDescriptor yX3_dayOf.desc).map (fun d => d.parameters.length) = some 1 := by decide +kernel
def sX3_dayOf (O : OF) (p1 : Int32) : Int32 := (if (sX3_has O p1) = true then (O.2 11) p1.toNatClampNeg else (-1 : Int32))
set_option maxHeartbeats 4000000 in
set_option maxRecDepth 100000 in
theorem c_X3_dayOf (l : Launch) (D : va_G) (cs : Nat → ClassId) (a : Nat → Nat) (O : OF) (p1 : Int32) : Met l yX3_dayOf (wc yX3_dayOf cX3_dayOf 2 (some .int)) ({ frames := 1, cells := 0, slots := 0, locals := 21 } : Room) (va_Pc [.ref (a 2), .int p1] (PE D cs (ofW cs a O))) (vp_Si (fun r9 => r9 = (sX3_dayOf O p1))) 0 0 (fun _ => False) := by
  obtain ⟨v, hv⟩ : ∃ v, sX3_dayOf O p1 = v := ⟨_, rfl⟩
  rw [hv]
  refine met_o (lv := [(0, .ref (a 2)), (1, .int p1)]) (by decide) (Nat.le_of_ble_eq_true rfl) rfl ?_
  intro p e s m args below meth c ls hx hb hr hml hts hown hlocks hin hP hE hl
  have hown : s.vm.findClass RX3 = some m.cls := hown
  have hK := hE.1
  have hP : va_P D vwC (ofW cs a O) s.heap := hP
  unfold sX3_dayOf at hv
  refine lv_aload_n hx hb dX3_dayOf_0 rfl (lv_at hl 0 rfl) ?_
  refine lv_iload_n hx hb dX3_dayOf_1 rfl (lv_at hl 1 rfl) ?_
  refine ro_i (b2i (sX3_has O p1)) (run_c (va_runV (As := [.int p1]) (rest := []) ⟨hx, hb, hml, hown, hts⟩ (c_X3_has l D cs a O p1) (cwV 1 hts (good_V w_ml_X3_43 w_im_X3_has w_se_X3_has w_in_X3 w_co_X3_has) rfl rfl rfl ⟨rfl, hd_X3_has⟩ ⟨Nat.le_of_ble_eq_true rfl, Nat.le_of_ble_eq_true rfl⟩) (pe_W (C := RX3) (T := TX3) (N := 8) (ci := 3) (q0 := 2) hP hE rfl rfl) rfl rfl hl.1 rfl (lv_room (Nat.le_of_ble_eq_true rfl)) dX3_dayOf_2 ⟨Nat.zero_le _, Nat.zero_le _⟩)) ?_
  refine join_i (J := 18) (ls := ls) (rest := []) ((if (sX3_has O p1) = true then (O.2 11) p1.toNatClampNeg else (-1 : Int32))) ?_ (fun hJ => ?_)
  · exact W.iret (v := (if (sX3_has O p1) = true then (O.2 11) p1.toNatClampNeg else (-1 : Int32))) hx hb hr (fun t ht hW => ⟨(if (sX3_has O p1) = true then (O.2 11) p1.toNatClampNeg else (-1 : Int32)), rfl, hv, ht⟩) (fun _ h => nomatch h) dX3_dayOf_18 (hlocks := hlocks)
  · refine lv_if_eq (tgt := 17) hx hb dX3_dayOf_5 (by decide) (fun c5 => ?_) (fun c5 => ?_)
    · have c5 := b2i_f c5
      refine lv_iconst (v := (-1)) hx hb dX3_dayOf_17 (by decide) ?_
      exact hJ _ ((if_neg c5).trans rfl)
    · have c5 := b2i_t c5
      refine lv_aload_n hx hb dX3_dayOf_8 rfl (lv_at hl 0 rfl) ?_
      refine va_get (D := D) (ci := 3) (v := .ref (a 11)) (C := RX3) (T := TX3) (N := 8) hx hb hts iw_X3 hown hK hP 2 rfl rfl 5 (by decide) (hts _ w_fl_X3_21) (fun _ h9 => h9) rfl dX3_dayOf_9 ?_
      refine lv_iload_n hx hb dX3_dayOf_12 rfl (lv_at hl 1 rfl) ?_
      refine va_iald (cA := cs 0) (n := 24) (f := (O.2 11)) hx hb hK hP 11 0 rfl rfl (by first | exact X3_in (by assumption) | exact in_X7_isSetting (by assumption)) dX3_dayOf_13 ?_
      refine lv_goto (tgt := 18) hx hb dX3_dayOf_14 (by decide) ?_
      exact hJ _ ((if_pos c5).trans rfl)
theorem hd_X3_stampsOf : yX3_stampsOf.cls ≠ "java/lang/invoke/MethodHandle" ∧ yX3_stampsOf.cls ≠ "java/lang/invoke/VarHandle" ∧ (parseMethodDescriptor yX3_stampsOf.desc).map (fun d => d.parameters.length) = some 1 := by decide +kernel
def sX3_stampsOf (O : OF) (p1 : Int32) : Int32 := (if (sX3_has O p1) = true then (O.2 12) p1.toNatClampNeg else (0 : Int32))
set_option maxHeartbeats 4000000 in
set_option maxRecDepth 100000 in
theorem c_X3_stampsOf (l : Launch) (D : va_G) (cs : Nat → ClassId) (a : Nat → Nat) (O : OF) (p1 : Int32) : Met l yX3_stampsOf (wc yX3_stampsOf cX3_stampsOf 2 (some .int)) ({ frames := 1, cells := 0, slots := 0, locals := 21 } : Room) (va_Pc [.ref (a 2), .int p1] (PE D cs (ofW cs a O))) (vp_Si (fun r9 => r9 = (sX3_stampsOf O p1))) 0 0 (fun _ => False) := by
  obtain ⟨v, hv⟩ : ∃ v, sX3_stampsOf O p1 = v := ⟨_, rfl⟩
  rw [hv]
  refine met_o (lv := [(0, .ref (a 2)), (1, .int p1)]) (by decide) (Nat.le_of_ble_eq_true rfl) rfl ?_
  intro p e s m args below meth c ls hx hb hr hml hts hown hlocks hin hP hE hl
  have hown : s.vm.findClass RX3 = some m.cls := hown
  have hK := hE.1
  have hP : va_P D vwC (ofW cs a O) s.heap := hP
  unfold sX3_stampsOf at hv
  refine lv_aload_n hx hb dX3_stampsOf_0 rfl (lv_at hl 0 rfl) ?_
  refine lv_iload_n hx hb dX3_stampsOf_1 rfl (lv_at hl 1 rfl) ?_
  refine ro_i (b2i (sX3_has O p1)) (run_c (va_runV (As := [.int p1]) (rest := []) ⟨hx, hb, hml, hown, hts⟩ (c_X3_has l D cs a O p1) (cwV 1 hts (good_V w_ml_X3_43 w_im_X3_has w_se_X3_has w_in_X3 w_co_X3_has) rfl rfl rfl ⟨rfl, hd_X3_has⟩ ⟨Nat.le_of_ble_eq_true rfl, Nat.le_of_ble_eq_true rfl⟩) (pe_W (C := RX3) (T := TX3) (N := 8) (ci := 3) (q0 := 2) hP hE rfl rfl) rfl rfl hl.1 rfl (lv_room (Nat.le_of_ble_eq_true rfl)) dX3_stampsOf_2 ⟨Nat.zero_le _, Nat.zero_le _⟩)) ?_
  refine join_i (J := 18) (ls := ls) (rest := []) ((if (sX3_has O p1) = true then (O.2 12) p1.toNatClampNeg else (0 : Int32))) ?_ (fun hJ => ?_)
  · exact W.iret (v := (if (sX3_has O p1) = true then (O.2 12) p1.toNatClampNeg else (0 : Int32))) hx hb hr (fun t ht hW => ⟨(if (sX3_has O p1) = true then (O.2 12) p1.toNatClampNeg else (0 : Int32)), rfl, hv, ht⟩) (fun _ h => nomatch h) dX3_stampsOf_18 (hlocks := hlocks)
  · refine lv_if_eq (tgt := 17) hx hb dX3_stampsOf_5 (by decide) (fun c5 => ?_) (fun c5 => ?_)
    · have c5 := b2i_f c5
      refine lv_iconst (v := 0) hx hb dX3_stampsOf_17 (by decide) ?_
      exact hJ _ ((if_neg c5).trans rfl)
    · have c5 := b2i_t c5
      refine lv_aload_n hx hb dX3_stampsOf_8 rfl (lv_at hl 0 rfl) ?_
      refine va_get (D := D) (ci := 3) (v := .ref (a 12)) (C := RX3) (T := TX3) (N := 8) hx hb hts iw_X3 hown hK hP 2 rfl rfl 6 (by decide) (hts _ w_fl_X3_24) (fun _ h9 => h9) rfl dX3_stampsOf_9 ?_
      refine lv_iload_n hx hb dX3_stampsOf_12 rfl (lv_at hl 1 rfl) ?_
      refine va_iald (cA := cs 0) (n := 24) (f := (O.2 12)) hx hb hK hP 12 0 rfl rfl (by first | exact X3_in (by assumption) | exact in_X7_isSetting (by assumption)) dX3_stampsOf_13 ?_
      refine lv_goto (tgt := 18) hx hb dX3_stampsOf_14 (by decide) ?_
      exact hJ _ ((if_pos c5).trans rfl)
theorem hd_X3_dueOf : yX3_dueOf.cls ≠ "java/lang/invoke/MethodHandle" ∧ yX3_dueOf.cls ≠ "java/lang/invoke/VarHandle" ∧ (parseMethodDescriptor yX3_dueOf.desc).map (fun d => d.parameters.length) = some 1 := by decide +kernel
def sX3_dueOf (O : OF) (p1 : Int32) : Int32 := (if (sX3_has O p1) = true then (O.2 13) p1.toNatClampNeg else (-1 : Int32))
set_option maxHeartbeats 4000000 in
set_option maxRecDepth 100000 in
theorem c_X3_dueOf (l : Launch) (D : va_G) (cs : Nat → ClassId) (a : Nat → Nat) (O : OF) (p1 : Int32) : Met l yX3_dueOf (wc yX3_dueOf cX3_dueOf 2 (some .int)) ({ frames := 1, cells := 0, slots := 0, locals := 21 } : Room) (va_Pc [.ref (a 2), .int p1] (PE D cs (ofW cs a O))) (vp_Si (fun r9 => r9 = (sX3_dueOf O p1))) 0 0 (fun _ => False) := by
  obtain ⟨v, hv⟩ : ∃ v, sX3_dueOf O p1 = v := ⟨_, rfl⟩
  rw [hv]
  refine met_o (lv := [(0, .ref (a 2)), (1, .int p1)]) (by decide) (Nat.le_of_ble_eq_true rfl) rfl ?_
  intro p e s m args below meth c ls hx hb hr hml hts hown hlocks hin hP hE hl
  have hown : s.vm.findClass RX3 = some m.cls := hown
  have hK := hE.1
  have hP : va_P D vwC (ofW cs a O) s.heap := hP
  unfold sX3_dueOf at hv
  refine lv_aload_n hx hb dX3_dueOf_0 rfl (lv_at hl 0 rfl) ?_
  refine lv_iload_n hx hb dX3_dueOf_1 rfl (lv_at hl 1 rfl) ?_
  refine ro_i (b2i (sX3_has O p1)) (run_c (va_runV (As := [.int p1]) (rest := []) ⟨hx, hb, hml, hown, hts⟩ (c_X3_has l D cs a O p1) (cwV 1 hts (good_V w_ml_X3_43 w_im_X3_has w_se_X3_has w_in_X3 w_co_X3_has) rfl rfl rfl ⟨rfl, hd_X3_has⟩ ⟨Nat.le_of_ble_eq_true rfl, Nat.le_of_ble_eq_true rfl⟩) (pe_W (C := RX3) (T := TX3) (N := 8) (ci := 3) (q0 := 2) hP hE rfl rfl) rfl rfl hl.1 rfl (lv_room (Nat.le_of_ble_eq_true rfl)) dX3_dueOf_2 ⟨Nat.zero_le _, Nat.zero_le _⟩)) ?_
  refine join_i (J := 18) (ls := ls) (rest := []) ((if (sX3_has O p1) = true then (O.2 13) p1.toNatClampNeg else (-1 : Int32))) ?_ (fun hJ => ?_)
  · exact W.iret (v := (if (sX3_has O p1) = true then (O.2 13) p1.toNatClampNeg else (-1 : Int32))) hx hb hr (fun t ht hW => ⟨(if (sX3_has O p1) = true then (O.2 13) p1.toNatClampNeg else (-1 : Int32)), rfl, hv, ht⟩) (fun _ h => nomatch h) dX3_dueOf_18 (hlocks := hlocks)
  · refine lv_if_eq (tgt := 17) hx hb dX3_dueOf_5 (by decide) (fun c5 => ?_) (fun c5 => ?_)
    · have c5 := b2i_f c5
      refine lv_iconst (v := (-1)) hx hb dX3_dueOf_17 (by decide) ?_
      exact hJ _ ((if_neg c5).trans rfl)
    · have c5 := b2i_t c5
      refine lv_aload_n hx hb dX3_dueOf_8 rfl (lv_at hl 0 rfl) ?_
      refine va_get (D := D) (ci := 3) (v := .ref (a 13)) (C := RX3) (T := TX3) (N := 8) hx hb hts iw_X3 hown hK hP 2 rfl rfl 7 (by decide) (hts _ w_fl_X3_27) (fun _ h9 => h9) rfl dX3_dueOf_9 ?_
      refine lv_iload_n hx hb dX3_dueOf_12 rfl (lv_at hl 1 rfl) ?_
      refine va_iald (cA := cs 0) (n := 24) (f := (O.2 13)) hx hb hK hP 13 0 rfl rfl (by first | exact X3_in (by assumption) | exact in_X7_isSetting (by assumption)) dX3_dueOf_13 ?_
      refine lv_goto (tgt := 18) hx hb dX3_dueOf_14 (by decide) ?_
      exact hJ _ ((if_pos c5).trans rfl)
theorem hd_X3_isOut : yX3_isOut.cls ≠ "java/lang/invoke/MethodHandle" ∧ yX3_isOut.cls ≠ "java/lang/invoke/VarHandle" ∧ (parseMethodDescriptor yX3_isOut.desc).map (fun d => d.parameters.length) = some 1 := by decide +kernel
def sX3_isOut (O : OF) (p1 : Int32) : Bool := (sX7_isIn (O.1 3) p1)
set_option maxHeartbeats 4000000 in
set_option maxRecDepth 100000 in
theorem c_X3_isOut (l : Launch) (D : va_G) (cs : Nat → ClassId) (a : Nat → Nat) (O : OF) (p1 : Int32) : Met l yX3_isOut (wc yX3_isOut cX3_isOut 2 (some .boolean)) ({ frames := 1, cells := 0, slots := 0, locals := 21 } : Room) (va_Pc [.ref (a 2), .int p1] (PE D cs (ofW cs a O))) (vp_Si (fun r9 => r9 = b2i (sX3_isOut O p1))) 0 0 (fun _ => False) := by
  obtain ⟨v, hv⟩ : ∃ v, sX3_isOut O p1 = v := ⟨_, rfl⟩
  rw [hv]
  refine met_o (lv := [(0, .ref (a 2)), (1, .int p1)]) (by decide) (Nat.le_of_ble_eq_true rfl) rfl ?_
  intro p e s m args below meth c ls hx hb hr hml hts hown hlocks hin hP hE hl
  have hown : s.vm.findClass RX3 = some m.cls := hown
  have hK := hE.1
  have hP : va_P D vwC (ofW cs a O) s.heap := hP
  unfold sX3_isOut at hv
  refine lv_aload_n hx hb dX3_isOut_0 rfl (lv_at hl 0 rfl) ?_
  refine va_get (D := D) (ci := 3) (v := .int (O.1 3)) (C := RX3) (T := TX3) (N := 8) hx hb hts iw_X3 hown hK hP 2 rfl rfl 1 (by decide) (hts _ w_fl_X3_34) (fun _ h9 => h9) rfl dX3_isOut_1 ?_
  refine lv_iload_n hx hb dX3_isOut_4 rfl (lv_at hl 1 rfl) ?_
  refine ro_i (b2i (sX7_isIn (O.1 3) p1)) (run_c (va_runSN (As := [.int (O.1 3), .int p1]) (rest := []) ⟨hx, hb, hml, hown, hts⟩ (c_X7_isIn l D cs (O.1 3) p1) ⟨va_cnB 2 hts (good_code w_co_X7_isIn) rfl rfl rfl (hE.2.1 ("TrueSheets$Prints", 47, yX7_isIn) (List.mem_of_getElem? (i := 4) rfl)) (hts _ w_in_X7) hd_X7_isIn ⟨Nat.le_of_ble_eq_true rfl, Nat.le_of_ble_eq_true rfl⟩, hts _ w_st_X7_isIn, trivial⟩ (pe_S (p_nil D _) hE) rfl rfl hl.1 rfl (lv_room (Nat.le_of_ble_eq_true rfl)) dX3_isOut_5 ⟨Nat.zero_le _, Nat.zero_le _⟩)) ?_
  exact W.zret (ty := .boolean) (v := b2i (sX7_isIn (O.1 3) p1)) hx hb hr (b2i_nar (sX7_isIn (O.1 3) p1)) (fun t ht hW => ⟨b2i (sX7_isIn (O.1 3) p1), rfl, congrArg b2i hv, ht⟩) (fun _ h => nomatch h) dX3_isOut_8 (hlocks := hlocks)
theorem hd_X3_isOutNotRecalled : yX3_isOutNotRecalled.cls ≠ "java/lang/invoke/MethodHandle" ∧ yX3_isOutNotRecalled.cls ≠ "java/lang/invoke/VarHandle" ∧ (parseMethodDescriptor yX3_isOutNotRecalled.desc).map (fun d => d.parameters.length) = some 1 := by decide +kernel
def sX3_isOutNotRecalled (O : OF) (p1 : Int32) : Bool := (if (sX3_isOut O p1) = true then (if (sX3_dueOf O p1) = (-1) then true else false) else false)
set_option maxHeartbeats 4000000 in
set_option maxRecDepth 100000 in
theorem c_X3_isOutNotRecalled (l : Launch) (D : va_G) (cs : Nat → ClassId) (a : Nat → Nat) (O : OF) (p1 : Int32) : Met l yX3_isOutNotRecalled (wc yX3_isOutNotRecalled cX3_isOutNotRecalled 2 (some .boolean)) ({ frames := 2, cells := 0, slots := 0, locals := 42 } : Room) (va_Pc [.ref (a 2), .int p1] (PE D cs (ofW cs a O))) (vp_Si (fun r9 => r9 = b2i (sX3_isOutNotRecalled O p1))) 0 0 (fun _ => False) := by
  obtain ⟨v, hv⟩ : ∃ v, sX3_isOutNotRecalled O p1 = v := ⟨_, rfl⟩
  rw [hv]
  refine met_o (lv := [(0, .ref (a 2)), (1, .int p1)]) (by decide) (Nat.le_of_ble_eq_true rfl) rfl ?_
  intro p e s m args below meth c ls hx hb hr hml hts hown hlocks hin hP hE hl
  have hown : s.vm.findClass RX3 = some m.cls := hown
  have hK := hE.1
  have hP : va_P D vwC (ofW cs a O) s.heap := hP
  unfold sX3_isOutNotRecalled at hv
  refine lv_aload_n hx hb dX3_isOutNotRecalled_0 rfl (lv_at hl 0 rfl) ?_
  refine lv_iload_n hx hb dX3_isOutNotRecalled_1 rfl (lv_at hl 1 rfl) ?_
  refine ro_i (b2i (sX3_isOut O p1)) (run_c (va_runV (As := [.int p1]) (rest := []) ⟨hx, hb, hml, hown, hts⟩ (c_X3_isOut l D cs a O p1) (cwV 1 hts (good_V w_ml_X3_51 w_im_X3_isOut w_se_X3_isOut w_in_X3 w_co_X3_isOut) rfl rfl rfl ⟨rfl, hd_X3_isOut⟩ ⟨Nat.le_of_ble_eq_true rfl, Nat.le_of_ble_eq_true rfl⟩) (pe_W (C := RX3) (T := TX3) (N := 8) (ci := 3) (q0 := 2) hP hE rfl rfl) rfl rfl hl.1 rfl (lv_room (Nat.le_of_ble_eq_true rfl)) dX3_isOutNotRecalled_2 ⟨Nat.zero_le _, Nat.zero_le _⟩)) ?_
  refine join_i (J := 22) (ls := ls) (rest := []) (b2i (if (sX3_isOut O p1) = true then (if (sX3_dueOf O p1) = (-1) then true else false) else false)) ?_ (fun hJ => ?_)
  · exact W.zret (ty := .boolean) (v := b2i (if (sX3_isOut O p1) = true then (if (sX3_dueOf O p1) = (-1) then true else false) else false)) hx hb hr (b2i_nar (if (sX3_isOut O p1) = true then (if (sX3_dueOf O p1) = (-1) then true else false) else false)) (fun t ht hW => ⟨b2i (if (sX3_isOut O p1) = true then (if (sX3_dueOf O p1) = (-1) then true else false) else false), rfl, congrArg b2i hv, ht⟩) (fun _ h => nomatch h) dX3_isOutNotRecalled_22 (hlocks := hlocks)
  · refine lv_if_eq (tgt := 21) hx hb dX3_isOutNotRecalled_5 (by decide) (fun c5 => ?_) (fun c5 => ?_)
    · have c5 := b2i_f c5
      refine lv_iconst (v := 0) hx hb dX3_isOutNotRecalled_21 (by decide) ?_
      exact hJ _ (congrArg b2i ((if_neg c5).trans rfl))
    · have c5 := b2i_t c5
      refine lv_aload_n hx hb dX3_isOutNotRecalled_8 rfl (lv_at hl 0 rfl) ?_
      refine lv_iload_n hx hb dX3_isOutNotRecalled_9 rfl (lv_at hl 1 rfl) ?_
      refine ro_i (sX3_dueOf O p1) (run_c (va_runV (As := [.int p1]) (rest := []) ⟨hx, hb, hml, hown, hts⟩ (c_X3_dueOf l D cs a O p1) (cwV 1 hts (good_V w_ml_X3_54 w_im_X3_dueOf w_se_X3_dueOf w_in_X3 w_co_X3_dueOf) rfl rfl rfl ⟨rfl, hd_X3_dueOf⟩ ⟨Nat.le_of_ble_eq_true rfl, Nat.le_of_ble_eq_true rfl⟩) (pe_W (C := RX3) (T := TX3) (N := 8) (ci := 3) (q0 := 2) hP hE rfl rfl) rfl rfl hl.1 rfl (lv_room (Nat.le_of_ble_eq_true rfl)) dX3_isOutNotRecalled_10 ⟨Nat.zero_le _, Nat.zero_le _⟩)) ?_
      refine lv_iconst (v := (-1)) hx hb dX3_isOutNotRecalled_13 (by decide) ?_
      refine lv_icmp_ne (tgt := 21) hx hb dX3_isOutNotRecalled_14 (by decide) (fun c14 => ?_) (fun c14 => ?_)
      · refine lv_iconst (v := 0) hx hb dX3_isOutNotRecalled_21 (by decide) ?_
        exact hJ _ (congrArg b2i ((if_pos c5).trans ((if_neg c14).trans rfl)))
      · refine lv_iconst (v := 1) hx hb dX3_isOutNotRecalled_17 (by decide) ?_
        refine lv_goto (tgt := 22) hx hb dX3_isOutNotRecalled_18 (by decide) ?_
        exact hJ _ (congrArg b2i ((if_pos c5).trans ((if_pos c14).trans rfl)))
theorem hd_X3_isOutAndRecalled : yX3_isOutAndRecalled.cls ≠ "java/lang/invoke/MethodHandle" ∧ yX3_isOutAndRecalled.cls ≠ "java/lang/invoke/VarHandle" ∧ (parseMethodDescriptor yX3_isOutAndRecalled.desc).map (fun d => d.parameters.length) = some 1 := by decide +kernel
def sX3_isOutAndRecalled (O : OF) (p1 : Int32) : Bool := (if (sX3_isOut O p1) = true then (if (sX3_dueOf O p1) = (-1) then false else true) else false)
set_option maxHeartbeats 4000000 in
set_option maxRecDepth 100000 in
theorem c_X3_isOutAndRecalled (l : Launch) (D : va_G) (cs : Nat → ClassId) (a : Nat → Nat) (O : OF) (p1 : Int32) : Met l yX3_isOutAndRecalled (wc yX3_isOutAndRecalled cX3_isOutAndRecalled 2 (some .boolean)) ({ frames := 2, cells := 0, slots := 0, locals := 42 } : Room) (va_Pc [.ref (a 2), .int p1] (PE D cs (ofW cs a O))) (vp_Si (fun r9 => r9 = b2i (sX3_isOutAndRecalled O p1))) 0 0 (fun _ => False) := by
  obtain ⟨v, hv⟩ : ∃ v, sX3_isOutAndRecalled O p1 = v := ⟨_, rfl⟩
  rw [hv]
  refine met_o (lv := [(0, .ref (a 2)), (1, .int p1)]) (by decide) (Nat.le_of_ble_eq_true rfl) rfl ?_
  intro p e s m args below meth c ls hx hb hr hml hts hown hlocks hin hP hE hl
  have hown : s.vm.findClass RX3 = some m.cls := hown
  have hK := hE.1
  have hP : va_P D vwC (ofW cs a O) s.heap := hP
  unfold sX3_isOutAndRecalled at hv
  refine lv_aload_n hx hb dX3_isOutAndRecalled_0 rfl (lv_at hl 0 rfl) ?_
  refine lv_iload_n hx hb dX3_isOutAndRecalled_1 rfl (lv_at hl 1 rfl) ?_
  refine ro_i (b2i (sX3_isOut O p1)) (run_c (va_runV (As := [.int p1]) (rest := []) ⟨hx, hb, hml, hown, hts⟩ (c_X3_isOut l D cs a O p1) (cwV 1 hts (good_V w_ml_X3_51 w_im_X3_isOut w_se_X3_isOut w_in_X3 w_co_X3_isOut) rfl rfl rfl ⟨rfl, hd_X3_isOut⟩ ⟨Nat.le_of_ble_eq_true rfl, Nat.le_of_ble_eq_true rfl⟩) (pe_W (C := RX3) (T := TX3) (N := 8) (ci := 3) (q0 := 2) hP hE rfl rfl) rfl rfl hl.1 rfl (lv_room (Nat.le_of_ble_eq_true rfl)) dX3_isOutAndRecalled_2 ⟨Nat.zero_le _, Nat.zero_le _⟩)) ?_
  refine join_i (J := 22) (ls := ls) (rest := []) (b2i (if (sX3_isOut O p1) = true then (if (sX3_dueOf O p1) = (-1) then false else true) else false)) ?_ (fun hJ => ?_)
  · exact W.zret (ty := .boolean) (v := b2i (if (sX3_isOut O p1) = true then (if (sX3_dueOf O p1) = (-1) then false else true) else false)) hx hb hr (b2i_nar (if (sX3_isOut O p1) = true then (if (sX3_dueOf O p1) = (-1) then false else true) else false)) (fun t ht hW => ⟨b2i (if (sX3_isOut O p1) = true then (if (sX3_dueOf O p1) = (-1) then false else true) else false), rfl, congrArg b2i hv, ht⟩) (fun _ h => nomatch h) dX3_isOutAndRecalled_22 (hlocks := hlocks)
  · refine lv_if_eq (tgt := 21) hx hb dX3_isOutAndRecalled_5 (by decide) (fun c5 => ?_) (fun c5 => ?_)
    · have c5 := b2i_f c5
      refine lv_iconst (v := 0) hx hb dX3_isOutAndRecalled_21 (by decide) ?_
      exact hJ _ (congrArg b2i ((if_neg c5).trans rfl))
    · have c5 := b2i_t c5
      refine lv_aload_n hx hb dX3_isOutAndRecalled_8 rfl (lv_at hl 0 rfl) ?_
      refine lv_iload_n hx hb dX3_isOutAndRecalled_9 rfl (lv_at hl 1 rfl) ?_
      refine ro_i (sX3_dueOf O p1) (run_c (va_runV (As := [.int p1]) (rest := []) ⟨hx, hb, hml, hown, hts⟩ (c_X3_dueOf l D cs a O p1) (cwV 1 hts (good_V w_ml_X3_54 w_im_X3_dueOf w_se_X3_dueOf w_in_X3 w_co_X3_dueOf) rfl rfl rfl ⟨rfl, hd_X3_dueOf⟩ ⟨Nat.le_of_ble_eq_true rfl, Nat.le_of_ble_eq_true rfl⟩) (pe_W (C := RX3) (T := TX3) (N := 8) (ci := 3) (q0 := 2) hP hE rfl rfl) rfl rfl hl.1 rfl (lv_room (Nat.le_of_ble_eq_true rfl)) dX3_isOutAndRecalled_10 ⟨Nat.zero_le _, Nat.zero_le _⟩)) ?_
      refine lv_iconst (v := (-1)) hx hb dX3_isOutAndRecalled_13 (by decide) ?_
      refine lv_icmp_eq (tgt := 21) hx hb dX3_isOutAndRecalled_14 (by decide) (fun c14 => ?_) (fun c14 => ?_)
      · refine lv_iconst (v := 0) hx hb dX3_isOutAndRecalled_21 (by decide) ?_
        exact hJ _ (congrArg b2i ((if_pos c5).trans ((if_pos c14).trans rfl)))
      · refine lv_iconst (v := 1) hx hb dX3_isOutAndRecalled_17 (by decide) ?_
        refine lv_goto (tgt := 22) hx hb dX3_isOutAndRecalled_18 (by decide) ?_
        exact hJ _ (congrArg b2i ((if_pos c5).trans ((if_neg c14).trans rfl)))
theorem hd_X3_overdueDays : yX3_overdueDays.cls ≠ "java/lang/invoke/MethodHandle" ∧ yX3_overdueDays.cls ≠ "java/lang/invoke/VarHandle" ∧ (parseMethodDescriptor yX3_overdueDays.desc).map (fun d => d.parameters.length) = some 2 := by decide +kernel
def sX3_overdueDays (O : OF) (p1 : Int32) (p2 : Int32) : Int32 := (if (sX3_isOutAndRecalled O p1) = true then if 0 < (p2 - (sX3_dueOf O p1)) then (p2 - (sX3_dueOf O p1)) else 0 else (0 : Int32))
set_option maxHeartbeats 4000000 in
set_option maxRecDepth 100000 in
theorem c_X3_overdueDays (l : Launch) (D : va_G) (cs : Nat → ClassId) (a : Nat → Nat) (O : OF) (p1 : Int32) (p2 : Int32) : Met l yX3_overdueDays (wc yX3_overdueDays cX3_overdueDays 3 (some .int)) ({ frames := 3, cells := 0, slots := 0, locals := 63 } : Room) (va_Pc [.ref (a 2), .int p1, .int p2] (PE D cs (ofW cs a O))) (vp_Si (fun r9 => r9 = (sX3_overdueDays O p1 p2))) 0 0 (fun _ => False) := by
  obtain ⟨v, hv⟩ : ∃ v, sX3_overdueDays O p1 p2 = v := ⟨_, rfl⟩
  rw [hv]
  refine met_o (lv := [(0, .ref (a 2)), (1, .int p1), (2, .int p2)]) (by decide) (Nat.le_of_ble_eq_true rfl) rfl ?_
  intro p e s m args below meth c ls hx hb hr hml hts hown hlocks hin hP hE hl
  have hown : s.vm.findClass RX3 = some m.cls := hown
  have hK := hE.1
  have hP : va_P D vwC (ofW cs a O) s.heap := hP
  unfold sX3_overdueDays at hv
  refine lv_aload_n hx hb dX3_overdueDays_0 rfl (lv_at hl 0 rfl) ?_
  refine lv_iload_n hx hb dX3_overdueDays_1 rfl (lv_at hl 1 rfl) ?_
  refine ro_i (b2i (sX3_isOutAndRecalled O p1)) (run_c (va_runV (As := [.int p1]) (rest := []) ⟨hx, hb, hml, hown, hts⟩ (c_X3_isOutAndRecalled l D cs a O p1) (cwV 1 hts (good_V w_ml_X3_58 w_im_X3_isOutAndRecalled w_se_X3_isOutAndRecalled w_in_X3 w_co_X3_isOutAndRecalled) rfl rfl rfl ⟨rfl, hd_X3_isOutAndRecalled⟩ ⟨Nat.le_of_ble_eq_true rfl, Nat.le_of_ble_eq_true rfl⟩) (pe_W (C := RX3) (T := TX3) (N := 8) (ci := 3) (q0 := 2) hP hE rfl rfl) rfl rfl hl.1 rfl (lv_room (Nat.le_of_ble_eq_true rfl)) dX3_overdueDays_2 ⟨Nat.zero_le _, Nat.zero_le _⟩)) ?_
  refine join_i (J := 23) (ls := ls) (rest := []) ((if (sX3_isOutAndRecalled O p1) = true then if 0 < (p2 - (sX3_dueOf O p1)) then (p2 - (sX3_dueOf O p1)) else 0 else (0 : Int32))) ?_ (fun hJ => ?_)
  · exact W.iret (v := (if (sX3_isOutAndRecalled O p1) = true then if 0 < (p2 - (sX3_dueOf O p1)) then (p2 - (sX3_dueOf O p1)) else 0 else (0 : Int32))) hx hb hr (fun t ht hW => ⟨(if (sX3_isOutAndRecalled O p1) = true then if 0 < (p2 - (sX3_dueOf O p1)) then (p2 - (sX3_dueOf O p1)) else 0 else (0 : Int32)), rfl, hv, ht⟩) (fun _ h => nomatch h) dX3_overdueDays_23 (hlocks := hlocks)
  · refine lv_if_eq (tgt := 22) hx hb dX3_overdueDays_5 (by decide) (fun c5 => ?_) (fun c5 => ?_)
    · have c5 := b2i_f c5
      refine lv_iconst (v := 0) hx hb dX3_overdueDays_22 (by decide) ?_
      exact hJ _ ((if_neg c5).trans rfl)
    · have c5 := b2i_t c5
      refine lv_iconst (v := 0) hx hb dX3_overdueDays_8 (by decide) ?_
      refine lv_iload_n hx hb dX3_overdueDays_9 rfl (lv_at hl 2 rfl) ?_
      refine lv_aload_n hx hb dX3_overdueDays_10 rfl (lv_at hl 0 rfl) ?_
      refine lv_iload_n hx hb dX3_overdueDays_11 rfl (lv_at hl 1 rfl) ?_
      refine ro_i (sX3_dueOf O p1) (run_c (va_runV (As := [.int p1]) (rest := [.int p2, .int 0]) ⟨hx, hb, hml, hown, hts⟩ (c_X3_dueOf l D cs a O p1) (cwV 1 hts (good_V w_ml_X3_54 w_im_X3_dueOf w_se_X3_dueOf w_in_X3 w_co_X3_dueOf) rfl rfl rfl ⟨rfl, hd_X3_dueOf⟩ ⟨Nat.le_of_ble_eq_true rfl, Nat.le_of_ble_eq_true rfl⟩) (pe_W (C := RX3) (T := TX3) (N := 8) (ci := 3) (q0 := 2) hP hE rfl rfl) rfl rfl hl.1 rfl (lv_room (Nat.le_of_ble_eq_true rfl)) dX3_overdueDays_12 ⟨Nat.zero_le _, Nat.zero_le _⟩)) ?_
      refine lv_isub hx hb dX3_overdueDays_15 ?_
      refine va_mmax hx hb (by rw [hml, hl.1]) hown (hts _ w_ml_X3_61) (hts _ w_st_J9_max_7cf53) (hts _ w_in_J9) (hts _ w_co_J9_max_7cf53) (Nat.le_of_ble_eq_true rfl) (Nat.le_of_ble_eq_true rfl) (Nat.zero_le _) (Nat.zero_le _) dX3_overdueDays_16 ?_
      refine lv_goto (tgt := 23) hx hb dX3_overdueDays_19 (by decide) ?_
      exact hJ _ ((if_pos c5).trans rfl)
theorem hd_X3_outCount : yX3_outCount.cls ≠ "java/lang/invoke/MethodHandle" ∧ yX3_outCount.cls ≠ "java/lang/invoke/VarHandle" ∧ (parseMethodDescriptor yX3_outCount.desc).map (fun d => d.parameters.length) = some 0 := by decide +kernel
def sX3_outCount (O : OF) : Int32 := sJ6_bitCount_0f7a4 (O.1 3)
set_option maxHeartbeats 4000000 in
set_option maxRecDepth 100000 in
theorem c_X3_outCount (l : Launch) (D : va_G) (cs : Nat → ClassId) (a : Nat → Nat) (O : OF) : Met l yX3_outCount (wc yX3_outCount cX3_outCount 1 (some .int)) ({ frames := 1, cells := 0, slots := 0, locals := 20 } : Room) (va_Pc [.ref (a 2)] (PE D cs (ofW cs a O))) (vp_Si (fun r9 => r9 = (sX3_outCount O))) 0 0 (fun _ => False) := by
  obtain ⟨v, hv⟩ : ∃ v, sX3_outCount O = v := ⟨_, rfl⟩
  rw [hv]
  refine met_o (lv := [(0, .ref (a 2))]) (by decide) (Nat.le_of_ble_eq_true rfl) rfl ?_
  intro p e s m args below meth c ls hx hb hr hml hts hown hlocks hin hP hE hl
  have hown : s.vm.findClass RX3 = some m.cls := hown
  have hK := hE.1
  have hP : va_P D vwC (ofW cs a O) s.heap := hP
  unfold sX3_outCount at hv
  refine lv_aload_n hx hb dX3_outCount_0 rfl (lv_at hl 0 rfl) ?_
  refine va_get (D := D) (ci := 3) (v := .int (O.1 3)) (C := RX3) (T := TX3) (N := 8) hx hb hts iw_X3 hown hK hP 2 rfl rfl 1 (by decide) (hts _ w_fl_X3_34) (fun _ h9 => h9) rfl dX3_outCount_1 ?_
  refine ro_i (sJ6_bitCount_0f7a4 (O.1 3)) (run_c (va_runS (As := [.int (O.1 3)]) (rest := []) ⟨hx, hb, hml, hown, hts⟩ (c_J6_bitCount_0f7a4 l D cs (O.1 3)) (va_cwS 1 hts (good_T w_ml_X3_67 w_st_J6_bitCount_0f7a4 w_in_J6 w_co_J6_bitCount_0f7a4) rfl rfl rfl hd_J6_bitCount_0f7a4 ⟨Nat.le_of_ble_eq_true rfl, Nat.le_of_ble_eq_true rfl⟩) (pe_S (p_nil D _) hE) rfl rfl hl.1 rfl (lv_room (Nat.le_of_ble_eq_true rfl)) dX3_outCount_4 ⟨Nat.zero_le _, Nat.zero_le _⟩)) ?_
  exact W.iret (v := sJ6_bitCount_0f7a4 (O.1 3)) hx hb hr (fun t ht hW => ⟨sJ6_bitCount_0f7a4 (O.1 3), rfl, hv, ht⟩) (fun _ h => nomatch h) dX3_outCount_7 (hlocks := hlocks)
theorem hd_X3_outCountOf : yX3_outCountOf.cls ≠ "java/lang/invoke/MethodHandle" ∧ yX3_outCountOf.cls ≠ "java/lang/invoke/VarHandle" ∧ (parseMethodDescriptor yX3_outCountOf.desc).map (fun d => d.parameters.length) = some 1 := by decide +kernel
def LX3_outCountOf_4 (O : OF) (p1 : Int32) : Nat → Int32 → Int32 → Int32
  | 0 => fun _ _ => 0
  | n + 1 => fun x2 x3 => (if (O.1 2) ≤ x3 then x2 else (if (sX3_isOut O x3) = true then (if (sX3_sheetOf O x3) = p1 then (LX3_outCountOf_4 O p1 n (x2 + 1) (x3 + 1)) else (LX3_outCountOf_4 O p1 n x2 (x3 + 1))) else (LX3_outCountOf_4 O p1 n x2 (x3 + 1))))
theorem LX3_outCountOf_4_eq (O : OF) (p1 : Int32) (n : Nat) (x2 : Int32) (x3 : Int32) : LX3_outCountOf_4 O p1 (n + 1) x2 x3 = (if (O.1 2) ≤ x3 then x2 else (if (sX3_isOut O x3) = true then (if (sX3_sheetOf O x3) = p1 then (LX3_outCountOf_4 O p1 n (x2 + 1) (x3 + 1)) else (LX3_outCountOf_4 O p1 n x2 (x3 + 1))) else (LX3_outCountOf_4 O p1 n x2 (x3 + 1)))) := rfl
def sX3_outCountOf (O : OF) (p1 : Int32) : Int32 := (LX3_outCountOf_4 O p1 (upM (O.1 2) 0 + 1) 0 0)
set_option maxHeartbeats 4000000 in
set_option maxRecDepth 100000 in
theorem c_X3_outCountOf (l : Launch) (D : va_G) (cs : Nat → ClassId) (a : Nat → Nat) (O : OF) (p1 : Int32) : Met l yX3_outCountOf (wc yX3_outCountOf cX3_outCountOf 4 (some .int)) ({ frames := 2, cells := 0, slots := 0, locals := 42 } : Room) (va_Pc [.ref (a 2), .int p1] (PE D cs (ofW cs a O))) (vp_Si (fun r9 => r9 = (sX3_outCountOf O p1))) 0 0 (fun _ => False) := by
  obtain ⟨v, hv⟩ : ∃ v, sX3_outCountOf O p1 = v := ⟨_, rfl⟩
  rw [hv]
  refine met_o (lv := [(0, .ref (a 2)), (1, .int p1)]) (by decide) (Nat.le_of_ble_eq_true rfl) rfl ?_
  intro p e s m args below meth c ls hx hb hr hml hts hown hlocks hin hP hE hl
  have hown : s.vm.findClass RX3 = some m.cls := hown
  have hK := hE.1
  have hP : va_P D vwC (ofW cs a O) s.heap := hP
  unfold sX3_outCountOf at hv
  refine lv_iconst (v := 0) hx hb dX3_outCountOf_0 (by decide) ?_
  refine lv_istore_n (lv' := [(2, .int 0), (0, .ref (a 2)), (1, .int p1)]) hx hb dX3_outCountOf_1 rfl hl (by decide) rfl (fun ls hl => ?_)
  refine lv_iconst (v := 0) hx hb dX3_outCountOf_2 (by decide) ?_
  refine lv_istore_n (lv' := [(3, .int 0), (2, .int 0), (0, .ref (a 2)), (1, .int p1)]) hx hb dX3_outCountOf_3 rfl hl (by decide) rfl (fun ls hl => ?_)
  have LOOP : ∀ (n : Nat) (x2 : Int32) (x3 : Int32), upM (O.1 2) x3 < n → LX3_outCountOf_4 O p1 n x2 x3 = v → ∀ ls : Array Slot, lv_has ls 4 [(0, .ref (a 2)), (1, .int p1), (2, .int x2), (3, .int x3)] → W p l e ({ frames := 2, cells := 0, slots := 0, locals := 42 } : Room) s m args below meth c s.heap [] 0 0 (MQ below (vp_Si (fun r9 => r9 = v)) args s 0 0 (fun _ => False)) (F0 m 4 ls []) := by
    clear hv
    intro n
    induction n with
    | zero => intro x2 x3 hm; exact absurd hm (Nat.not_lt_zero _)
    | succ n ih =>
      intro x2 x3 hm hv ls hl
      have hv := (LX3_outCountOf_4_eq O p1 n x2 x3).symm.trans hv
      refine lv_iload_n hx hb dX3_outCountOf_4 rfl (lv_at hl 3 rfl) ?_
      refine lv_aload_n hx hb dX3_outCountOf_5 rfl (lv_at hl 0 rfl) ?_
      refine va_get (D := D) (ci := 3) (v := .int (O.1 2)) (C := RX3) (T := TX3) (N := 8) hx hb hts iw_X3 hown hK hP 2 rfl rfl 0 (by decide) (hts _ w_fl_X3_30) (fun _ h9 => h9) rfl dX3_outCountOf_6 ?_
      refine lv_icmp_ge (tgt := 38) hx hb dX3_outCountOf_9 (by decide) (fun c9 => ?_) (fun c9 => ?_)
      · have hv := (if_pos c9).symm.trans hv
        refine lv_iload_n hx hb dX3_outCountOf_38 rfl (lv_at hl 2 rfl) ?_
        exact W.iret (v := x2) hx hb hr (fun t ht hW => ⟨x2, rfl, hv, ht⟩) (fun _ h => nomatch h) dX3_outCountOf_39 (hlocks := hlocks)
      · have hv := (if_neg c9).symm.trans hv
        refine lv_aload_n hx hb dX3_outCountOf_12 rfl (lv_at hl 0 rfl) ?_
        refine lv_iload_n hx hb dX3_outCountOf_13 rfl (lv_at hl 3 rfl) ?_
        refine ro_i (b2i (sX3_isOut O x3)) (run_c (va_runV (As := [.int x3]) (rest := []) ⟨hx, hb, hml, hown, hts⟩ (c_X3_isOut l D cs a O x3) (cwV 1 hts (good_V w_ml_X3_51 w_im_X3_isOut w_se_X3_isOut w_in_X3 w_co_X3_isOut) rfl rfl rfl ⟨rfl, hd_X3_isOut⟩ ⟨Nat.le_of_ble_eq_true rfl, Nat.le_of_ble_eq_true rfl⟩) (pe_W (C := RX3) (T := TX3) (N := 8) (ci := 3) (q0 := 2) hP hE rfl rfl) rfl rfl hl.1 rfl (lv_room (Nat.le_of_ble_eq_true rfl)) dX3_outCountOf_14 ⟨Nat.zero_le _, Nat.zero_le _⟩)) ?_
        refine lv_if_eq (tgt := 32) hx hb dX3_outCountOf_17 (by decide) (fun c17 => ?_) (fun c17 => ?_)
        · have c17 := b2i_f c17
          have hv := (if_neg c17).symm.trans hv
          refine lv_iinc (v := x3 + 1) (lv' := [(3, .int (x3 + 1)), (0, .ref (a 2)), (1, .int p1), (2, .int x2)]) hx hb dX3_outCountOf_32 hl (k := 3) rfl rfl (by decide) rfl (fun ls hl => ?_)
          refine lv_goto (tgt := 4) hx hb dX3_outCountOf_35 (by decide) ?_
          exact ih x2 (x3 + 1) (upM_s c9 hm) hv ls (lv_sub hl [1, 2, 3, 0] rfl)
        · have c17 := b2i_t c17
          have hv := (if_pos c17).symm.trans hv
          refine lv_aload_n hx hb dX3_outCountOf_20 rfl (lv_at hl 0 rfl) ?_
          refine lv_iload_n hx hb dX3_outCountOf_21 rfl (lv_at hl 3 rfl) ?_
          refine ro_i (sX3_sheetOf O x3) (run_c (va_runV (As := [.int x3]) (rest := []) ⟨hx, hb, hml, hown, hts⟩ (c_X3_sheetOf l D cs a O x3) (cwV 1 hts (good_V w_ml_X3_72 w_im_X3_sheetOf w_se_X3_sheetOf w_in_X3 w_co_X3_sheetOf) rfl rfl rfl ⟨rfl, hd_X3_sheetOf⟩ ⟨Nat.le_of_ble_eq_true rfl, Nat.le_of_ble_eq_true rfl⟩) (pe_W (C := RX3) (T := TX3) (N := 8) (ci := 3) (q0 := 2) hP hE rfl rfl) rfl rfl hl.1 rfl (lv_room (Nat.le_of_ble_eq_true rfl)) dX3_outCountOf_22 ⟨Nat.zero_le _, Nat.zero_le _⟩)) ?_
          refine lv_iload_n hx hb dX3_outCountOf_25 rfl (lv_at hl 1 rfl) ?_
          refine lv_icmp_ne (tgt := 32) hx hb dX3_outCountOf_26 (by decide) (fun c26 => ?_) (fun c26 => ?_)
          · have hv := (if_neg c26).symm.trans hv
            refine lv_iinc (v := x3 + 1) (lv' := [(3, .int (x3 + 1)), (0, .ref (a 2)), (1, .int p1), (2, .int x2)]) hx hb dX3_outCountOf_32 hl (k := 3) rfl rfl (by decide) rfl (fun ls hl => ?_)
            refine lv_goto (tgt := 4) hx hb dX3_outCountOf_35 (by decide) ?_
            exact ih x2 (x3 + 1) (upM_s c9 hm) hv ls (lv_sub hl [1, 2, 3, 0] rfl)
          · have hv := (if_pos c26).symm.trans hv
            refine lv_iinc (v := x2 + 1) (lv' := [(2, .int (x2 + 1)), (0, .ref (a 2)), (1, .int p1), (3, .int x3)]) hx hb dX3_outCountOf_29 hl (k := 2) rfl rfl (by decide) rfl (fun ls hl => ?_)
            refine lv_iinc (v := x3 + 1) (lv' := [(3, .int (x3 + 1)), (2, .int (x2 + 1)), (0, .ref (a 2)), (1, .int p1)]) hx hb dX3_outCountOf_32 hl (k := 3) rfl rfl (by decide) rfl (fun ls hl => ?_)
            refine lv_goto (tgt := 4) hx hb dX3_outCountOf_35 (by decide) ?_
            exact ih (x2 + 1) (x3 + 1) (upM_s c9 hm) hv ls (lv_sub hl [2, 3, 1, 0] rfl)
  exact LOOP _ 0 0 (Nat.lt_succ_self _) hv ls (lv_sub hl [2, 3, 1, 0] rfl)
theorem hd_X3_recalledCount : yX3_recalledCount.cls ≠ "java/lang/invoke/MethodHandle" ∧ yX3_recalledCount.cls ≠ "java/lang/invoke/VarHandle" ∧ (parseMethodDescriptor yX3_recalledCount.desc).map (fun d => d.parameters.length) = some 0 := by decide +kernel
def LX3_recalledCount_4 (O : OF) : Nat → Int32 → Int32 → Int32
  | 0 => fun _ _ => 0
  | n + 1 => fun x1 x2 => (if (O.1 2) ≤ x2 then x1 else (if (sX3_isOutAndRecalled O x2) = true then (LX3_recalledCount_4 O n (x1 + 1) (x2 + 1)) else (LX3_recalledCount_4 O n x1 (x2 + 1))))
theorem LX3_recalledCount_4_eq (O : OF) (n : Nat) (x1 : Int32) (x2 : Int32) : LX3_recalledCount_4 O (n + 1) x1 x2 = (if (O.1 2) ≤ x2 then x1 else (if (sX3_isOutAndRecalled O x2) = true then (LX3_recalledCount_4 O n (x1 + 1) (x2 + 1)) else (LX3_recalledCount_4 O n x1 (x2 + 1)))) := rfl
def sX3_recalledCount (O : OF) : Int32 := (LX3_recalledCount_4 O (upM (O.1 2) 0 + 1) 0 0)
set_option maxHeartbeats 4000000 in
set_option maxRecDepth 100000 in
theorem c_X3_recalledCount (l : Launch) (D : va_G) (cs : Nat → ClassId) (a : Nat → Nat) (O : OF) : Met l yX3_recalledCount (wc yX3_recalledCount cX3_recalledCount 3 (some .int)) ({ frames := 3, cells := 0, slots := 0, locals := 63 } : Room) (va_Pc [.ref (a 2)] (PE D cs (ofW cs a O))) (vp_Si (fun r9 => r9 = (sX3_recalledCount O))) 0 0 (fun _ => False) := by
  obtain ⟨v, hv⟩ : ∃ v, sX3_recalledCount O = v := ⟨_, rfl⟩
  rw [hv]
  refine met_o (lv := [(0, .ref (a 2))]) (by decide) (Nat.le_of_ble_eq_true rfl) rfl ?_
  intro p e s m args below meth c ls hx hb hr hml hts hown hlocks hin hP hE hl
  have hown : s.vm.findClass RX3 = some m.cls := hown
  have hK := hE.1
  have hP : va_P D vwC (ofW cs a O) s.heap := hP
  unfold sX3_recalledCount at hv
  refine lv_iconst (v := 0) hx hb dX3_recalledCount_0 (by decide) ?_
  refine lv_istore_n (lv' := [(1, .int 0), (0, .ref (a 2))]) hx hb dX3_recalledCount_1 rfl hl (by decide) rfl (fun ls hl => ?_)
  refine lv_iconst (v := 0) hx hb dX3_recalledCount_2 (by decide) ?_
  refine lv_istore_n (lv' := [(2, .int 0), (1, .int 0), (0, .ref (a 2))]) hx hb dX3_recalledCount_3 rfl hl (by decide) rfl (fun ls hl => ?_)
  have LOOP : ∀ (n : Nat) (x1 : Int32) (x2 : Int32), upM (O.1 2) x2 < n → LX3_recalledCount_4 O n x1 x2 = v → ∀ ls : Array Slot, lv_has ls 3 [(0, .ref (a 2)), (1, .int x1), (2, .int x2)] → W p l e ({ frames := 3, cells := 0, slots := 0, locals := 63 } : Room) s m args below meth c s.heap [] 0 0 (MQ below (vp_Si (fun r9 => r9 = v)) args s 0 0 (fun _ => False)) (F0 m 4 ls []) := by
    clear hv
    intro n
    induction n with
    | zero => intro x1 x2 hm; exact absurd hm (Nat.not_lt_zero _)
    | succ n ih =>
      intro x1 x2 hm hv ls hl
      have hv := (LX3_recalledCount_4_eq O n x1 x2).symm.trans hv
      refine lv_iload_n hx hb dX3_recalledCount_4 rfl (lv_at hl 2 rfl) ?_
      refine lv_aload_n hx hb dX3_recalledCount_5 rfl (lv_at hl 0 rfl) ?_
      refine va_get (D := D) (ci := 3) (v := .int (O.1 2)) (C := RX3) (T := TX3) (N := 8) hx hb hts iw_X3 hown hK hP 2 rfl rfl 0 (by decide) (hts _ w_fl_X3_30) (fun _ h9 => h9) rfl dX3_recalledCount_6 ?_
      refine lv_icmp_ge (tgt := 29) hx hb dX3_recalledCount_9 (by decide) (fun c9 => ?_) (fun c9 => ?_)
      · have hv := (if_pos c9).symm.trans hv
        refine lv_iload_n hx hb dX3_recalledCount_29 rfl (lv_at hl 1 rfl) ?_
        exact W.iret (v := x1) hx hb hr (fun t ht hW => ⟨x1, rfl, hv, ht⟩) (fun _ h => nomatch h) dX3_recalledCount_30 (hlocks := hlocks)
      · have hv := (if_neg c9).symm.trans hv
        refine lv_aload_n hx hb dX3_recalledCount_12 rfl (lv_at hl 0 rfl) ?_
        refine lv_iload_n hx hb dX3_recalledCount_13 rfl (lv_at hl 2 rfl) ?_
        refine ro_i (b2i (sX3_isOutAndRecalled O x2)) (run_c (va_runV (As := [.int x2]) (rest := []) ⟨hx, hb, hml, hown, hts⟩ (c_X3_isOutAndRecalled l D cs a O x2) (cwV 1 hts (good_V w_ml_X3_58 w_im_X3_isOutAndRecalled w_se_X3_isOutAndRecalled w_in_X3 w_co_X3_isOutAndRecalled) rfl rfl rfl ⟨rfl, hd_X3_isOutAndRecalled⟩ ⟨Nat.le_of_ble_eq_true rfl, Nat.le_of_ble_eq_true rfl⟩) (pe_W (C := RX3) (T := TX3) (N := 8) (ci := 3) (q0 := 2) hP hE rfl rfl) rfl rfl hl.1 rfl (lv_room (Nat.le_of_ble_eq_true rfl)) dX3_recalledCount_14 ⟨Nat.zero_le _, Nat.zero_le _⟩)) ?_
        refine lv_if_eq (tgt := 23) hx hb dX3_recalledCount_17 (by decide) (fun c17 => ?_) (fun c17 => ?_)
        · have c17 := b2i_f c17
          have hv := (if_neg c17).symm.trans hv
          refine lv_iinc (v := x2 + 1) (lv' := [(2, .int (x2 + 1)), (0, .ref (a 2)), (1, .int x1)]) hx hb dX3_recalledCount_23 hl (k := 2) rfl rfl (by decide) rfl (fun ls hl => ?_)
          refine lv_goto (tgt := 4) hx hb dX3_recalledCount_26 (by decide) ?_
          exact ih x1 (x2 + 1) (upM_s c9 hm) hv ls (lv_sub hl [1, 2, 0] rfl)
        · have c17 := b2i_t c17
          have hv := (if_pos c17).symm.trans hv
          refine lv_iinc (v := x1 + 1) (lv' := [(1, .int (x1 + 1)), (0, .ref (a 2)), (2, .int x2)]) hx hb dX3_recalledCount_20 hl (k := 1) rfl rfl (by decide) rfl (fun ls hl => ?_)
          refine lv_iinc (v := x2 + 1) (lv' := [(2, .int (x2 + 1)), (1, .int (x1 + 1)), (0, .ref (a 2))]) hx hb dX3_recalledCount_23 hl (k := 2) rfl rfl (by decide) rfl (fun ls hl => ?_)
          refine lv_goto (tgt := 4) hx hb dX3_recalledCount_26 (by decide) ?_
          exact ih (x1 + 1) (x2 + 1) (upM_s c9 hm) hv ls (lv_sub hl [2, 1, 0] rfl)
  exact LOOP _ 0 0 (Nat.lt_succ_self _) hv ls (lv_sub hl [2, 1, 0] rfl)
theorem hd_X3_overdueCount : yX3_overdueCount.cls ≠ "java/lang/invoke/MethodHandle" ∧ yX3_overdueCount.cls ≠ "java/lang/invoke/VarHandle" ∧ (parseMethodDescriptor yX3_overdueCount.desc).map (fun d => d.parameters.length) = some 2 := by decide +kernel
def LX3_overdueCount_5 (O : OF) (p1 : Int32) (p2 : Int32) : Nat → Int32 → Int32 → Int32
  | 0 => fun _ _ => 0
  | n + 1 => fun x3 x4 => (if (O.1 2) ≤ x4 then x3 else (if p1 = (-1) then (if (sX3_overdueDays O x4 p2) ≤ 0 then (LX3_overdueCount_5 O p1 p2 n x3 (x4 + 1)) else (LX3_overdueCount_5 O p1 p2 n (x3 + 1) (x4 + 1))) else (if (sX3_siteOf O x4) = p1 then (if (sX3_overdueDays O x4 p2) ≤ 0 then (LX3_overdueCount_5 O p1 p2 n x3 (x4 + 1)) else (LX3_overdueCount_5 O p1 p2 n (x3 + 1) (x4 + 1))) else (LX3_overdueCount_5 O p1 p2 n x3 (x4 + 1)))))
theorem LX3_overdueCount_5_eq (O : OF) (p1 : Int32) (p2 : Int32) (n : Nat) (x3 : Int32) (x4 : Int32) : LX3_overdueCount_5 O p1 p2 (n + 1) x3 x4 = (if (O.1 2) ≤ x4 then x3 else (if p1 = (-1) then (if (sX3_overdueDays O x4 p2) ≤ 0 then (LX3_overdueCount_5 O p1 p2 n x3 (x4 + 1)) else (LX3_overdueCount_5 O p1 p2 n (x3 + 1) (x4 + 1))) else (if (sX3_siteOf O x4) = p1 then (if (sX3_overdueDays O x4 p2) ≤ 0 then (LX3_overdueCount_5 O p1 p2 n x3 (x4 + 1)) else (LX3_overdueCount_5 O p1 p2 n (x3 + 1) (x4 + 1))) else (LX3_overdueCount_5 O p1 p2 n x3 (x4 + 1))))) := rfl
def sX3_overdueCount (O : OF) (p1 : Int32) (p2 : Int32) : Int32 := (LX3_overdueCount_5 O p1 p2 (upM (O.1 2) 0 + 1) 0 0)
set_option maxHeartbeats 4000000 in
set_option maxRecDepth 100000 in
theorem c_X3_overdueCount (l : Launch) (D : va_G) (cs : Nat → ClassId) (a : Nat → Nat) (O : OF) (p1 : Int32) (p2 : Int32) : Met l yX3_overdueCount (wc yX3_overdueCount cX3_overdueCount 5 (some .int)) ({ frames := 4, cells := 0, slots := 0, locals := 85 } : Room) (va_Pc [.ref (a 2), .int p1, .int p2] (PE D cs (ofW cs a O))) (vp_Si (fun r9 => r9 = (sX3_overdueCount O p1 p2))) 0 0 (fun _ => False) := by
  obtain ⟨v, hv⟩ : ∃ v, sX3_overdueCount O p1 p2 = v := ⟨_, rfl⟩
  rw [hv]
  refine met_o (lv := [(0, .ref (a 2)), (1, .int p1), (2, .int p2)]) (by decide) (Nat.le_of_ble_eq_true rfl) rfl ?_
  intro p e s m args below meth c ls hx hb hr hml hts hown hlocks hin hP hE hl
  have hown : s.vm.findClass RX3 = some m.cls := hown
  have hK := hE.1
  have hP : va_P D vwC (ofW cs a O) s.heap := hP
  unfold sX3_overdueCount at hv
  refine lv_iconst (v := 0) hx hb dX3_overdueCount_0 (by decide) ?_
  refine lv_istore_n (lv' := [(3, .int 0), (0, .ref (a 2)), (1, .int p1), (2, .int p2)]) hx hb dX3_overdueCount_1 rfl hl (by decide) rfl (fun ls hl => ?_)
  refine lv_iconst (v := 0) hx hb dX3_overdueCount_2 (by decide) ?_
  refine lv_istore (lv' := [(4, .int 0), (3, .int 0), (0, .ref (a 2)), (1, .int p1), (2, .int p2)]) hx hb dX3_overdueCount_3 hl (by decide) rfl (fun ls hl => ?_)
  have LOOP : ∀ (n : Nat) (x3 : Int32) (x4 : Int32), upM (O.1 2) x4 < n → LX3_overdueCount_5 O p1 p2 n x3 x4 = v → ∀ ls : Array Slot, lv_has ls 5 [(0, .ref (a 2)), (1, .int p1), (2, .int p2), (3, .int x3), (4, .int x4)] → W p l e ({ frames := 4, cells := 0, slots := 0, locals := 85 } : Room) s m args below meth c s.heap [] 0 0 (MQ below (vp_Si (fun r9 => r9 = v)) args s 0 0 (fun _ => False)) (F0 m 5 ls []) := by
    clear hv
    intro n
    induction n with
    | zero => intro x3 x4 hm; exact absurd hm (Nat.not_lt_zero _)
    | succ n ih =>
      intro x3 x4 hm hv ls hl
      have hv := (LX3_overdueCount_5_eq O p1 p2 n x3 x4).symm.trans hv
      refine lv_iload hx hb dX3_overdueCount_5 (lv_at hl 4 rfl) ?_
      refine lv_aload_n hx hb dX3_overdueCount_7 rfl (lv_at hl 0 rfl) ?_
      refine va_get (D := D) (ci := 3) (v := .int (O.1 2)) (C := RX3) (T := TX3) (N := 8) hx hb hts iw_X3 hown hK hP 2 rfl rfl 0 (by decide) (hts _ w_fl_X3_30) (fun _ h9 => h9) rfl dX3_overdueCount_8 ?_
      refine lv_icmp_ge (tgt := 48) hx hb dX3_overdueCount_11 (by decide) (fun c11 => ?_) (fun c11 => ?_)
      · have hv := (if_pos c11).symm.trans hv
        refine lv_iload_n hx hb dX3_overdueCount_48 rfl (lv_at hl 3 rfl) ?_
        exact W.iret (v := x3) hx hb hr (fun t ht hW => ⟨x3, rfl, hv, ht⟩) (fun _ h => nomatch h) dX3_overdueCount_49 (hlocks := hlocks)
      · have hv := (if_neg c11).symm.trans hv
        refine lv_iload_n hx hb dX3_overdueCount_14 rfl (lv_at hl 1 rfl) ?_
        refine lv_iconst (v := (-1)) hx hb dX3_overdueCount_15 (by decide) ?_
        refine lv_icmp_eq (tgt := 29) hx hb dX3_overdueCount_16 (by decide) (fun c16 => ?_) (fun c16 => ?_)
        · have hv := (if_pos c16).symm.trans hv
          refine lv_aload_n hx hb dX3_overdueCount_29 rfl (lv_at hl 0 rfl) ?_
          refine lv_iload hx hb dX3_overdueCount_30 (lv_at hl 4 rfl) ?_
          refine lv_iload_n hx hb dX3_overdueCount_32 rfl (lv_at hl 2 rfl) ?_
          refine ro_i (sX3_overdueDays O x4 p2) (run_c (va_runV (As := [.int x4, .int p2]) (rest := []) ⟨hx, hb, hml, hown, hts⟩ (c_X3_overdueDays l D cs a O x4 p2) (cwV 2 hts (good_V w_ml_X3_78 w_im_X3_overdueDays w_se_X3_overdueDays w_in_X3 w_co_X3_overdueDays) rfl rfl rfl ⟨rfl, hd_X3_overdueDays⟩ ⟨Nat.le_of_ble_eq_true rfl, Nat.le_of_ble_eq_true rfl⟩) (pe_W (C := RX3) (T := TX3) (N := 8) (ci := 3) (q0 := 2) hP hE rfl rfl) rfl rfl hl.1 rfl (lv_room (Nat.le_of_ble_eq_true rfl)) dX3_overdueCount_33 ⟨Nat.zero_le _, Nat.zero_le _⟩)) ?_
          refine lv_if_le (tgt := 42) hx hb dX3_overdueCount_36 (by decide) (fun c36 => ?_) (fun c36 => ?_)
          · have hv := (if_pos c36).symm.trans hv
            refine lv_iinc (v := x4 + 1) (lv' := [(4, .int (x4 + 1)), (0, .ref (a 2)), (1, .int p1), (2, .int p2), (3, .int x3)]) hx hb dX3_overdueCount_42 hl (k := 4) rfl rfl (by decide) rfl (fun ls hl => ?_)
            refine lv_goto (tgt := 5) hx hb dX3_overdueCount_45 (by decide) ?_
            exact ih x3 (x4 + 1) (upM_s c11 hm) hv ls (lv_sub hl [1, 2, 3, 4, 0] rfl)
          · have hv := (if_neg c36).symm.trans hv
            refine lv_iinc (v := x3 + 1) (lv' := [(3, .int (x3 + 1)), (0, .ref (a 2)), (1, .int p1), (2, .int p2), (4, .int x4)]) hx hb dX3_overdueCount_39 hl (k := 3) rfl rfl (by decide) rfl (fun ls hl => ?_)
            refine lv_iinc (v := x4 + 1) (lv' := [(4, .int (x4 + 1)), (3, .int (x3 + 1)), (0, .ref (a 2)), (1, .int p1), (2, .int p2)]) hx hb dX3_overdueCount_42 hl (k := 4) rfl rfl (by decide) rfl (fun ls hl => ?_)
            refine lv_goto (tgt := 5) hx hb dX3_overdueCount_45 (by decide) ?_
            exact ih (x3 + 1) (x4 + 1) (upM_s c11 hm) hv ls (lv_sub hl [2, 3, 4, 1, 0] rfl)
        · have hv := (if_neg c16).symm.trans hv
          refine lv_aload_n hx hb dX3_overdueCount_19 rfl (lv_at hl 0 rfl) ?_
          refine lv_iload hx hb dX3_overdueCount_20 (lv_at hl 4 rfl) ?_
          refine ro_i (sX3_siteOf O x4) (run_c (va_runV (As := [.int x4]) (rest := []) ⟨hx, hb, hml, hown, hts⟩ (c_X3_siteOf l D cs a O x4) (cwV 1 hts (good_V w_ml_X3_75 w_im_X3_siteOf w_se_X3_siteOf w_in_X3 w_co_X3_siteOf) rfl rfl rfl ⟨rfl, hd_X3_siteOf⟩ ⟨Nat.le_of_ble_eq_true rfl, Nat.le_of_ble_eq_true rfl⟩) (pe_W (C := RX3) (T := TX3) (N := 8) (ci := 3) (q0 := 2) hP hE rfl rfl) rfl rfl hl.1 rfl (lv_room (Nat.le_of_ble_eq_true rfl)) dX3_overdueCount_22 ⟨Nat.zero_le _, Nat.zero_le _⟩)) ?_
          refine lv_iload_n hx hb dX3_overdueCount_25 rfl (lv_at hl 1 rfl) ?_
          refine lv_icmp_ne (tgt := 42) hx hb dX3_overdueCount_26 (by decide) (fun c26 => ?_) (fun c26 => ?_)
          · have hv := (if_neg c26).symm.trans hv
            refine lv_iinc (v := x4 + 1) (lv' := [(4, .int (x4 + 1)), (0, .ref (a 2)), (1, .int p1), (2, .int p2), (3, .int x3)]) hx hb dX3_overdueCount_42 hl (k := 4) rfl rfl (by decide) rfl (fun ls hl => ?_)
            refine lv_goto (tgt := 5) hx hb dX3_overdueCount_45 (by decide) ?_
            exact ih x3 (x4 + 1) (upM_s c11 hm) hv ls (lv_sub hl [1, 2, 3, 4, 0] rfl)
          · have hv := (if_pos c26).symm.trans hv
            refine lv_aload_n hx hb dX3_overdueCount_29 rfl (lv_at hl 0 rfl) ?_
            refine lv_iload hx hb dX3_overdueCount_30 (lv_at hl 4 rfl) ?_
            refine lv_iload_n hx hb dX3_overdueCount_32 rfl (lv_at hl 2 rfl) ?_
            refine ro_i (sX3_overdueDays O x4 p2) (run_c (va_runV (As := [.int x4, .int p2]) (rest := []) ⟨hx, hb, hml, hown, hts⟩ (c_X3_overdueDays l D cs a O x4 p2) (cwV 2 hts (good_V w_ml_X3_78 w_im_X3_overdueDays w_se_X3_overdueDays w_in_X3 w_co_X3_overdueDays) rfl rfl rfl ⟨rfl, hd_X3_overdueDays⟩ ⟨Nat.le_of_ble_eq_true rfl, Nat.le_of_ble_eq_true rfl⟩) (pe_W (C := RX3) (T := TX3) (N := 8) (ci := 3) (q0 := 2) hP hE rfl rfl) rfl rfl hl.1 rfl (lv_room (Nat.le_of_ble_eq_true rfl)) dX3_overdueCount_33 ⟨Nat.zero_le _, Nat.zero_le _⟩)) ?_
            refine lv_if_le (tgt := 42) hx hb dX3_overdueCount_36 (by decide) (fun c36 => ?_) (fun c36 => ?_)
            · have hv := (if_pos c36).symm.trans hv
              refine lv_iinc (v := x4 + 1) (lv' := [(4, .int (x4 + 1)), (0, .ref (a 2)), (1, .int p1), (2, .int p2), (3, .int x3)]) hx hb dX3_overdueCount_42 hl (k := 4) rfl rfl (by decide) rfl (fun ls hl => ?_)
              refine lv_goto (tgt := 5) hx hb dX3_overdueCount_45 (by decide) ?_
              exact ih x3 (x4 + 1) (upM_s c11 hm) hv ls (lv_sub hl [1, 2, 3, 4, 0] rfl)
            · have hv := (if_neg c36).symm.trans hv
              refine lv_iinc (v := x3 + 1) (lv' := [(3, .int (x3 + 1)), (0, .ref (a 2)), (1, .int p1), (2, .int p2), (4, .int x4)]) hx hb dX3_overdueCount_39 hl (k := 3) rfl rfl (by decide) rfl (fun ls hl => ?_)
              refine lv_iinc (v := x4 + 1) (lv' := [(4, .int (x4 + 1)), (3, .int (x3 + 1)), (0, .ref (a 2)), (1, .int p1), (2, .int p2)]) hx hb dX3_overdueCount_42 hl (k := 4) rfl rfl (by decide) rfl (fun ls hl => ?_)
              refine lv_goto (tgt := 5) hx hb dX3_overdueCount_45 (by decide) ?_
              exact ih (x3 + 1) (x4 + 1) (upM_s c11 hm) hv ls (lv_sub hl [2, 3, 4, 1, 0] rfl)
  exact LOOP _ 0 0 (Nat.lt_succ_self _) hv ls (lv_sub hl [2, 3, 4, 1, 0] rfl)
theorem hd_X3_recallCountOf : yX3_recallCountOf.cls ≠ "java/lang/invoke/MethodHandle" ∧ yX3_recallCountOf.cls ≠ "java/lang/invoke/VarHandle" ∧ (parseMethodDescriptor yX3_recallCountOf.desc).map (fun d => d.parameters.length) = some 1 := by decide +kernel
def LX3_recallCountOf_4 (O : OF) (p1 : Int32) : Nat → Int32 → Int32 → Int32
  | 0 => fun _ _ => 0
  | n + 1 => fun x2 x3 => (if (O.1 2) ≤ x3 then x2 else (if (sX3_isOutNotRecalled O x3) = true then (if (sX3_sheetOf O x3) = p1 then (LX3_recallCountOf_4 O p1 n (x2 + 1) (x3 + 1)) else (LX3_recallCountOf_4 O p1 n x2 (x3 + 1))) else (LX3_recallCountOf_4 O p1 n x2 (x3 + 1))))
theorem LX3_recallCountOf_4_eq (O : OF) (p1 : Int32) (n : Nat) (x2 : Int32) (x3 : Int32) : LX3_recallCountOf_4 O p1 (n + 1) x2 x3 = (if (O.1 2) ≤ x3 then x2 else (if (sX3_isOutNotRecalled O x3) = true then (if (sX3_sheetOf O x3) = p1 then (LX3_recallCountOf_4 O p1 n (x2 + 1) (x3 + 1)) else (LX3_recallCountOf_4 O p1 n x2 (x3 + 1))) else (LX3_recallCountOf_4 O p1 n x2 (x3 + 1)))) := rfl
def sX3_recallCountOf (O : OF) (p1 : Int32) : Int32 := (LX3_recallCountOf_4 O p1 (upM (O.1 2) 0 + 1) 0 0)
set_option maxHeartbeats 4000000 in
set_option maxRecDepth 100000 in
theorem c_X3_recallCountOf (l : Launch) (D : va_G) (cs : Nat → ClassId) (a : Nat → Nat) (O : OF) (p1 : Int32) : Met l yX3_recallCountOf (wc yX3_recallCountOf cX3_recallCountOf 4 (some .int)) ({ frames := 3, cells := 0, slots := 0, locals := 63 } : Room) (va_Pc [.ref (a 2), .int p1] (PE D cs (ofW cs a O))) (vp_Si (fun r9 => r9 = (sX3_recallCountOf O p1))) 0 0 (fun _ => False) := by
  obtain ⟨v, hv⟩ : ∃ v, sX3_recallCountOf O p1 = v := ⟨_, rfl⟩
  rw [hv]
  refine met_o (lv := [(0, .ref (a 2)), (1, .int p1)]) (by decide) (Nat.le_of_ble_eq_true rfl) rfl ?_
  intro p e s m args below meth c ls hx hb hr hml hts hown hlocks hin hP hE hl
  have hown : s.vm.findClass RX3 = some m.cls := hown
  have hK := hE.1
  have hP : va_P D vwC (ofW cs a O) s.heap := hP
  unfold sX3_recallCountOf at hv
  refine lv_iconst (v := 0) hx hb dX3_recallCountOf_0 (by decide) ?_
  refine lv_istore_n (lv' := [(2, .int 0), (0, .ref (a 2)), (1, .int p1)]) hx hb dX3_recallCountOf_1 rfl hl (by decide) rfl (fun ls hl => ?_)
  refine lv_iconst (v := 0) hx hb dX3_recallCountOf_2 (by decide) ?_
  refine lv_istore_n (lv' := [(3, .int 0), (2, .int 0), (0, .ref (a 2)), (1, .int p1)]) hx hb dX3_recallCountOf_3 rfl hl (by decide) rfl (fun ls hl => ?_)
  have LOOP : ∀ (n : Nat) (x2 : Int32) (x3 : Int32), upM (O.1 2) x3 < n → LX3_recallCountOf_4 O p1 n x2 x3 = v → ∀ ls : Array Slot, lv_has ls 4 [(0, .ref (a 2)), (1, .int p1), (2, .int x2), (3, .int x3)] → W p l e ({ frames := 3, cells := 0, slots := 0, locals := 63 } : Room) s m args below meth c s.heap [] 0 0 (MQ below (vp_Si (fun r9 => r9 = v)) args s 0 0 (fun _ => False)) (F0 m 4 ls []) := by
    clear hv
    intro n
    induction n with
    | zero => intro x2 x3 hm; exact absurd hm (Nat.not_lt_zero _)
    | succ n ih =>
      intro x2 x3 hm hv ls hl
      have hv := (LX3_recallCountOf_4_eq O p1 n x2 x3).symm.trans hv
      refine lv_iload_n hx hb dX3_recallCountOf_4 rfl (lv_at hl 3 rfl) ?_
      refine lv_aload_n hx hb dX3_recallCountOf_5 rfl (lv_at hl 0 rfl) ?_
      refine va_get (D := D) (ci := 3) (v := .int (O.1 2)) (C := RX3) (T := TX3) (N := 8) hx hb hts iw_X3 hown hK hP 2 rfl rfl 0 (by decide) (hts _ w_fl_X3_30) (fun _ h9 => h9) rfl dX3_recallCountOf_6 ?_
      refine lv_icmp_ge (tgt := 38) hx hb dX3_recallCountOf_9 (by decide) (fun c9 => ?_) (fun c9 => ?_)
      · have hv := (if_pos c9).symm.trans hv
        refine lv_iload_n hx hb dX3_recallCountOf_38 rfl (lv_at hl 2 rfl) ?_
        exact W.iret (v := x2) hx hb hr (fun t ht hW => ⟨x2, rfl, hv, ht⟩) (fun _ h => nomatch h) dX3_recallCountOf_39 (hlocks := hlocks)
      · have hv := (if_neg c9).symm.trans hv
        refine lv_aload_n hx hb dX3_recallCountOf_12 rfl (lv_at hl 0 rfl) ?_
        refine lv_iload_n hx hb dX3_recallCountOf_13 rfl (lv_at hl 3 rfl) ?_
        refine ro_i (b2i (sX3_isOutNotRecalled O x3)) (run_c (va_runV (As := [.int x3]) (rest := []) ⟨hx, hb, hml, hown, hts⟩ (c_X3_isOutNotRecalled l D cs a O x3) (cwV 1 hts (good_V w_ml_X3_81 w_im_X3_isOutNotRecalled w_se_X3_isOutNotRecalled w_in_X3 w_co_X3_isOutNotRecalled) rfl rfl rfl ⟨rfl, hd_X3_isOutNotRecalled⟩ ⟨Nat.le_of_ble_eq_true rfl, Nat.le_of_ble_eq_true rfl⟩) (pe_W (C := RX3) (T := TX3) (N := 8) (ci := 3) (q0 := 2) hP hE rfl rfl) rfl rfl hl.1 rfl (lv_room (Nat.le_of_ble_eq_true rfl)) dX3_recallCountOf_14 ⟨Nat.zero_le _, Nat.zero_le _⟩)) ?_
        refine lv_if_eq (tgt := 32) hx hb dX3_recallCountOf_17 (by decide) (fun c17 => ?_) (fun c17 => ?_)
        · have c17 := b2i_f c17
          have hv := (if_neg c17).symm.trans hv
          refine lv_iinc (v := x3 + 1) (lv' := [(3, .int (x3 + 1)), (0, .ref (a 2)), (1, .int p1), (2, .int x2)]) hx hb dX3_recallCountOf_32 hl (k := 3) rfl rfl (by decide) rfl (fun ls hl => ?_)
          refine lv_goto (tgt := 4) hx hb dX3_recallCountOf_35 (by decide) ?_
          exact ih x2 (x3 + 1) (upM_s c9 hm) hv ls (lv_sub hl [1, 2, 3, 0] rfl)
        · have c17 := b2i_t c17
          have hv := (if_pos c17).symm.trans hv
          refine lv_aload_n hx hb dX3_recallCountOf_20 rfl (lv_at hl 0 rfl) ?_
          refine lv_iload_n hx hb dX3_recallCountOf_21 rfl (lv_at hl 3 rfl) ?_
          refine ro_i (sX3_sheetOf O x3) (run_c (va_runV (As := [.int x3]) (rest := []) ⟨hx, hb, hml, hown, hts⟩ (c_X3_sheetOf l D cs a O x3) (cwV 1 hts (good_V w_ml_X3_72 w_im_X3_sheetOf w_se_X3_sheetOf w_in_X3 w_co_X3_sheetOf) rfl rfl rfl ⟨rfl, hd_X3_sheetOf⟩ ⟨Nat.le_of_ble_eq_true rfl, Nat.le_of_ble_eq_true rfl⟩) (pe_W (C := RX3) (T := TX3) (N := 8) (ci := 3) (q0 := 2) hP hE rfl rfl) rfl rfl hl.1 rfl (lv_room (Nat.le_of_ble_eq_true rfl)) dX3_recallCountOf_22 ⟨Nat.zero_le _, Nat.zero_le _⟩)) ?_
          refine lv_iload_n hx hb dX3_recallCountOf_25 rfl (lv_at hl 1 rfl) ?_
          refine lv_icmp_ne (tgt := 32) hx hb dX3_recallCountOf_26 (by decide) (fun c26 => ?_) (fun c26 => ?_)
          · have hv := (if_neg c26).symm.trans hv
            refine lv_iinc (v := x3 + 1) (lv' := [(3, .int (x3 + 1)), (0, .ref (a 2)), (1, .int p1), (2, .int x2)]) hx hb dX3_recallCountOf_32 hl (k := 3) rfl rfl (by decide) rfl (fun ls hl => ?_)
            refine lv_goto (tgt := 4) hx hb dX3_recallCountOf_35 (by decide) ?_
            exact ih x2 (x3 + 1) (upM_s c9 hm) hv ls (lv_sub hl [1, 2, 3, 0] rfl)
          · have hv := (if_pos c26).symm.trans hv
            refine lv_iinc (v := x2 + 1) (lv' := [(2, .int (x2 + 1)), (0, .ref (a 2)), (1, .int p1), (3, .int x3)]) hx hb dX3_recallCountOf_29 hl (k := 2) rfl rfl (by decide) rfl (fun ls hl => ?_)
            refine lv_iinc (v := x3 + 1) (lv' := [(3, .int (x3 + 1)), (2, .int (x2 + 1)), (0, .ref (a 2)), (1, .int p1)]) hx hb dX3_recallCountOf_32 hl (k := 3) rfl rfl (by decide) rfl (fun ls hl => ?_)
            refine lv_goto (tgt := 4) hx hb dX3_recallCountOf_35 (by decide) ?_
            exact ih (x2 + 1) (x3 + 1) (upM_s c9 hm) hv ls (lv_sub hl [2, 3, 1, 0] rfl)
  exact LOOP _ 0 0 (Nat.lt_succ_self _) hv ls (lv_sub hl [2, 3, 1, 0] rfl)
theorem hd_X3_fetchedBefore : yX3_fetchedBefore.cls ≠ "java/lang/invoke/MethodHandle" ∧ yX3_fetchedBefore.cls ≠ "java/lang/invoke/VarHandle" ∧ (parseMethodDescriptor yX3_fetchedBefore.desc).map (fun d => d.parameters.length) = some 1 := by decide +kernel
def LX3_fetchedBefore_4 (O : OF) (p1 : Int32) : Nat → Int32 → Int32 → Int32
  | 0 => fun _ _ => 0
  | n + 1 => fun x2 x3 => (if (O.1 2) ≤ x3 then x2 else (if (sX3_isOutAndRecalled O x3) = true then (if (if (sX3_dueOf O x3) < (sX3_dueOf O p1) then true else (if (sX3_dueOf O x3) = (sX3_dueOf O p1) then (if p1 ≤ x3 then false else true) else false)) = true then (LX3_fetchedBefore_4 O p1 n (x2 + 1) (x3 + 1)) else (LX3_fetchedBefore_4 O p1 n x2 (x3 + 1))) else (LX3_fetchedBefore_4 O p1 n x2 (x3 + 1))))
theorem LX3_fetchedBefore_4_eq (O : OF) (p1 : Int32) (n : Nat) (x2 : Int32) (x3 : Int32) : LX3_fetchedBefore_4 O p1 (n + 1) x2 x3 = (if (O.1 2) ≤ x3 then x2 else (if (sX3_isOutAndRecalled O x3) = true then (if (if (sX3_dueOf O x3) < (sX3_dueOf O p1) then true else (if (sX3_dueOf O x3) = (sX3_dueOf O p1) then (if p1 ≤ x3 then false else true) else false)) = true then (LX3_fetchedBefore_4 O p1 n (x2 + 1) (x3 + 1)) else (LX3_fetchedBefore_4 O p1 n x2 (x3 + 1))) else (LX3_fetchedBefore_4 O p1 n x2 (x3 + 1)))) := rfl
def sX3_fetchedBefore (O : OF) (p1 : Int32) : Int32 := (LX3_fetchedBefore_4 O p1 (upM (O.1 2) 0 + 1) 0 0)
set_option maxHeartbeats 4000000 in
set_option maxRecDepth 100000 in
theorem c_X3_fetchedBefore (l : Launch) (D : va_G) (cs : Nat → ClassId) (a : Nat → Nat) (O : OF) (p1 : Int32) : Met l yX3_fetchedBefore (wc yX3_fetchedBefore cX3_fetchedBefore 5 (some .int)) ({ frames := 3, cells := 0, slots := 0, locals := 63 } : Room) (va_Pc [.ref (a 2), .int p1] (PE D cs (ofW cs a O))) (vp_Si (fun r9 => r9 = (sX3_fetchedBefore O p1))) 0 0 (fun _ => False) := by
  obtain ⟨v, hv⟩ : ∃ v, sX3_fetchedBefore O p1 = v := ⟨_, rfl⟩
  rw [hv]
  refine met_o (lv := [(0, .ref (a 2)), (1, .int p1)]) (by decide) (Nat.le_of_ble_eq_true rfl) rfl ?_
  intro p e s m args below meth c ls hx hb hr hml hts hown hlocks hin hP hE hl
  have hown : s.vm.findClass RX3 = some m.cls := hown
  have hK := hE.1
  have hP : va_P D vwC (ofW cs a O) s.heap := hP
  unfold sX3_fetchedBefore at hv
  refine lv_iconst (v := 0) hx hb dX3_fetchedBefore_0 (by decide) ?_
  refine lv_istore_n (lv' := [(2, .int 0), (0, .ref (a 2)), (1, .int p1)]) hx hb dX3_fetchedBefore_1 rfl hl (by decide) rfl (fun ls hl => ?_)
  refine lv_iconst (v := 0) hx hb dX3_fetchedBefore_2 (by decide) ?_
  refine lv_istore_n (lv' := [(3, .int 0), (2, .int 0), (0, .ref (a 2)), (1, .int p1)]) hx hb dX3_fetchedBefore_3 rfl hl (by decide) rfl (fun ls hl => ?_)
  have LOOP : ∀ (n : Nat) (x2 : Int32) (x3 : Int32), upM (O.1 2) x3 < n → LX3_fetchedBefore_4 O p1 n x2 x3 = v → ∀ ls : Array Slot, lv_has ls 5 [(0, .ref (a 2)), (1, .int p1), (2, .int x2), (3, .int x3)] → W p l e ({ frames := 3, cells := 0, slots := 0, locals := 63 } : Room) s m args below meth c s.heap [] 0 0 (MQ below (vp_Si (fun r9 => r9 = v)) args s 0 0 (fun _ => False)) (F0 m 4 ls []) := by
    clear hv
    intro n
    induction n with
    | zero => intro x2 x3 hm; exact absurd hm (Nat.not_lt_zero _)
    | succ n ih =>
      intro x2 x3 hm hv ls hl
      have hv := (LX3_fetchedBefore_4_eq O p1 n x2 x3).symm.trans hv
      refine lv_iload_n hx hb dX3_fetchedBefore_4 rfl (lv_at hl 3 rfl) ?_
      refine lv_aload_n hx hb dX3_fetchedBefore_5 rfl (lv_at hl 0 rfl) ?_
      refine va_get (D := D) (ci := 3) (v := .int (O.1 2)) (C := RX3) (T := TX3) (N := 8) hx hb hts iw_X3 hown hK hP 2 rfl rfl 0 (by decide) (hts _ w_fl_X3_30) (fun _ h9 => h9) rfl dX3_fetchedBefore_6 ?_
      refine lv_icmp_ge (tgt := 72) hx hb dX3_fetchedBefore_9 (by decide) (fun c9 => ?_) (fun c9 => ?_)
      · have hv := (if_pos c9).symm.trans hv
        refine lv_iload_n hx hb dX3_fetchedBefore_72 rfl (lv_at hl 2 rfl) ?_
        exact W.iret (v := x2) hx hb hr (fun t ht hW => ⟨x2, rfl, hv, ht⟩) (fun _ h => nomatch h) dX3_fetchedBefore_73 (hlocks := hlocks)
      · have hv := (if_neg c9).symm.trans hv
        refine lv_aload_n hx hb dX3_fetchedBefore_12 rfl (lv_at hl 0 rfl) ?_
        refine lv_iload_n hx hb dX3_fetchedBefore_13 rfl (lv_at hl 3 rfl) ?_
        refine ro_i (sX3_dueOf O x3) (run_c (va_runV (As := [.int x3]) (rest := []) ⟨hx, hb, hml, hown, hts⟩ (c_X3_dueOf l D cs a O x3) (cwV 1 hts (good_V w_ml_X3_54 w_im_X3_dueOf w_se_X3_dueOf w_in_X3 w_co_X3_dueOf) rfl rfl rfl ⟨rfl, hd_X3_dueOf⟩ ⟨Nat.le_of_ble_eq_true rfl, Nat.le_of_ble_eq_true rfl⟩) (pe_W (C := RX3) (T := TX3) (N := 8) (ci := 3) (q0 := 2) hP hE rfl rfl) rfl rfl hl.1 rfl (lv_room (Nat.le_of_ble_eq_true rfl)) dX3_fetchedBefore_14 ⟨Nat.zero_le _, Nat.zero_le _⟩)) ?_
        refine lv_aload_n hx hb dX3_fetchedBefore_17 rfl (lv_at hl 0 rfl) ?_
        refine lv_iload_n hx hb dX3_fetchedBefore_18 rfl (lv_at hl 1 rfl) ?_
        refine ro_i (sX3_dueOf O p1) (run_c (va_runV (As := [.int p1]) (rest := [.int (sX3_dueOf O x3)]) ⟨hx, hb, hml, hown, hts⟩ (c_X3_dueOf l D cs a O p1) (cwV 1 hts (good_V w_ml_X3_54 w_im_X3_dueOf w_se_X3_dueOf w_in_X3 w_co_X3_dueOf) rfl rfl rfl ⟨rfl, hd_X3_dueOf⟩ ⟨Nat.le_of_ble_eq_true rfl, Nat.le_of_ble_eq_true rfl⟩) (pe_W (C := RX3) (T := TX3) (N := 8) (ci := 3) (q0 := 2) hP hE rfl rfl) rfl rfl hl.1 rfl (lv_room (Nat.le_of_ble_eq_true rfl)) dX3_fetchedBefore_19 ⟨Nat.zero_le _, Nat.zero_le _⟩)) ?_
        refine join_i (J := 48) (ls := ls) (rest := []) (b2i (if (sX3_dueOf O x3) < (sX3_dueOf O p1) then true else (if (sX3_dueOf O x3) = (sX3_dueOf O p1) then (if p1 ≤ x3 then false else true) else false))) ?_ (fun hJ => ?_)
        · refine lv_istore (lv' := [(4, .int (b2i (if (sX3_dueOf O x3) < (sX3_dueOf O p1) then true else (if (sX3_dueOf O x3) = (sX3_dueOf O p1) then (if p1 ≤ x3 then false else true) else false)))), (0, .ref (a 2)), (1, .int p1), (2, .int x2), (3, .int x3)]) hx hb dX3_fetchedBefore_48 hl (by decide) rfl (fun ls hl => ?_)
          refine lv_aload_n hx hb dX3_fetchedBefore_50 rfl (lv_at hl 1 rfl) ?_
          refine lv_iload_n hx hb dX3_fetchedBefore_51 rfl (lv_at hl 4 rfl) ?_
          refine ro_i (b2i (sX3_isOutAndRecalled O x3)) (run_c (va_runV (As := [.int x3]) (rest := []) ⟨hx, hb, hml, hown, hts⟩ (c_X3_isOutAndRecalled l D cs a O x3) (cwV 1 hts (good_V w_ml_X3_58 w_im_X3_isOutAndRecalled w_se_X3_isOutAndRecalled w_in_X3 w_co_X3_isOutAndRecalled) rfl rfl rfl ⟨rfl, hd_X3_isOutAndRecalled⟩ ⟨Nat.le_of_ble_eq_true rfl, Nat.le_of_ble_eq_true rfl⟩) (pe_W (C := RX3) (T := TX3) (N := 8) (ci := 3) (q0 := 2) hP hE rfl rfl) rfl rfl hl.1 rfl (lv_room (Nat.le_of_ble_eq_true rfl)) dX3_fetchedBefore_52 ⟨Nat.zero_le _, Nat.zero_le _⟩)) ?_
          refine lv_if_eq (tgt := 66) hx hb dX3_fetchedBefore_55 (by decide) (fun c55 => ?_) (fun c55 => ?_)
          · have c55 := b2i_f c55
            have hv := (if_neg c55).symm.trans hv
            refine lv_iinc (v := x3 + 1) (lv' := [(3, .int (x3 + 1)), (4, .int (b2i (if (sX3_dueOf O x3) < (sX3_dueOf O p1) then true else (if (sX3_dueOf O x3) = (sX3_dueOf O p1) then (if p1 ≤ x3 then false else true) else false)))), (0, .ref (a 2)), (1, .int p1), (2, .int x2)]) hx hb dX3_fetchedBefore_66 hl (k := 4) rfl rfl (by decide) rfl (fun ls hl => ?_)
            refine lv_goto (tgt := 4) hx hb dX3_fetchedBefore_69 (by decide) ?_
            exact ih x2 (x3 + 1) (upM_s c9 hm) hv ls (lv_sub hl [2, 3, 4, 0] rfl)
          · have c55 := b2i_t c55
            have hv := (if_pos c55).symm.trans hv
            refine lv_iload hx hb dX3_fetchedBefore_58 (lv_at hl 0 rfl) ?_
            refine lv_if_eq (tgt := 66) hx hb dX3_fetchedBefore_60 (by decide) (fun c60 => ?_) (fun c60 => ?_)
            · have c60 := b2i_f c60
              have hv := (if_neg c60).symm.trans hv
              refine lv_iinc (v := x3 + 1) (lv' := [(3, .int (x3 + 1)), (4, .int (b2i (if (sX3_dueOf O x3) < (sX3_dueOf O p1) then true else (if (sX3_dueOf O x3) = (sX3_dueOf O p1) then (if p1 ≤ x3 then false else true) else false)))), (0, .ref (a 2)), (1, .int p1), (2, .int x2)]) hx hb dX3_fetchedBefore_66 hl (k := 4) rfl rfl (by decide) rfl (fun ls hl => ?_)
              refine lv_goto (tgt := 4) hx hb dX3_fetchedBefore_69 (by decide) ?_
              exact ih x2 (x3 + 1) (upM_s c9 hm) hv ls (lv_sub hl [2, 3, 4, 0] rfl)
            · have c60 := b2i_t c60
              have hv := (if_pos c60).symm.trans hv
              refine lv_iinc (v := x2 + 1) (lv' := [(2, .int (x2 + 1)), (4, .int (b2i (if (sX3_dueOf O x3) < (sX3_dueOf O p1) then true else (if (sX3_dueOf O x3) = (sX3_dueOf O p1) then (if p1 ≤ x3 then false else true) else false)))), (0, .ref (a 2)), (1, .int p1), (3, .int x3)]) hx hb dX3_fetchedBefore_63 hl (k := 3) rfl rfl (by decide) rfl (fun ls hl => ?_)
              refine lv_iinc (v := x3 + 1) (lv' := [(3, .int (x3 + 1)), (2, .int (x2 + 1)), (4, .int (b2i (if (sX3_dueOf O x3) < (sX3_dueOf O p1) then true else (if (sX3_dueOf O x3) = (sX3_dueOf O p1) then (if p1 ≤ x3 then false else true) else false)))), (0, .ref (a 2)), (1, .int p1)]) hx hb dX3_fetchedBefore_66 hl (k := 4) rfl rfl (by decide) rfl (fun ls hl => ?_)
              refine lv_goto (tgt := 4) hx hb dX3_fetchedBefore_69 (by decide) ?_
              exact ih (x2 + 1) (x3 + 1) (upM_s c9 hm) hv ls (lv_sub hl [3, 4, 1, 0] rfl)
        · refine lv_icmp_lt (tgt := 43) hx hb dX3_fetchedBefore_22 (by decide) (fun c22 => ?_) (fun c22 => ?_)
          · refine lv_iconst (v := 1) hx hb dX3_fetchedBefore_43 (by decide) ?_
            refine lv_goto (tgt := 48) hx hb dX3_fetchedBefore_44 (by decide) ?_
            exact hJ _ (congrArg b2i ((if_pos c22).trans rfl))
          · refine lv_aload_n hx hb dX3_fetchedBefore_25 rfl (lv_at hl 0 rfl) ?_
            refine lv_iload_n hx hb dX3_fetchedBefore_26 rfl (lv_at hl 3 rfl) ?_
            refine ro_i (sX3_dueOf O x3) (run_c (va_runV (As := [.int x3]) (rest := []) ⟨hx, hb, hml, hown, hts⟩ (c_X3_dueOf l D cs a O x3) (cwV 1 hts (good_V w_ml_X3_54 w_im_X3_dueOf w_se_X3_dueOf w_in_X3 w_co_X3_dueOf) rfl rfl rfl ⟨rfl, hd_X3_dueOf⟩ ⟨Nat.le_of_ble_eq_true rfl, Nat.le_of_ble_eq_true rfl⟩) (pe_W (C := RX3) (T := TX3) (N := 8) (ci := 3) (q0 := 2) hP hE rfl rfl) rfl rfl hl.1 rfl (lv_room (Nat.le_of_ble_eq_true rfl)) dX3_fetchedBefore_27 ⟨Nat.zero_le _, Nat.zero_le _⟩)) ?_
            refine lv_aload_n hx hb dX3_fetchedBefore_30 rfl (lv_at hl 0 rfl) ?_
            refine lv_iload_n hx hb dX3_fetchedBefore_31 rfl (lv_at hl 1 rfl) ?_
            refine ro_i (sX3_dueOf O p1) (run_c (va_runV (As := [.int p1]) (rest := [.int (sX3_dueOf O x3)]) ⟨hx, hb, hml, hown, hts⟩ (c_X3_dueOf l D cs a O p1) (cwV 1 hts (good_V w_ml_X3_54 w_im_X3_dueOf w_se_X3_dueOf w_in_X3 w_co_X3_dueOf) rfl rfl rfl ⟨rfl, hd_X3_dueOf⟩ ⟨Nat.le_of_ble_eq_true rfl, Nat.le_of_ble_eq_true rfl⟩) (pe_W (C := RX3) (T := TX3) (N := 8) (ci := 3) (q0 := 2) hP hE rfl rfl) rfl rfl hl.1 rfl (lv_room (Nat.le_of_ble_eq_true rfl)) dX3_fetchedBefore_32 ⟨Nat.zero_le _, Nat.zero_le _⟩)) ?_
            refine lv_icmp_ne (tgt := 47) hx hb dX3_fetchedBefore_35 (by decide) (fun c35 => ?_) (fun c35 => ?_)
            · refine lv_iconst (v := 0) hx hb dX3_fetchedBefore_47 (by decide) ?_
              exact hJ _ (congrArg b2i ((if_neg c22).trans ((if_neg c35).trans rfl)))
            · refine lv_iload_n hx hb dX3_fetchedBefore_38 rfl (lv_at hl 3 rfl) ?_
              refine lv_iload_n hx hb dX3_fetchedBefore_39 rfl (lv_at hl 1 rfl) ?_
              refine lv_icmp_ge (tgt := 47) hx hb dX3_fetchedBefore_40 (by decide) (fun c40 => ?_) (fun c40 => ?_)
              · refine lv_iconst (v := 0) hx hb dX3_fetchedBefore_47 (by decide) ?_
                exact hJ _ (congrArg b2i ((if_neg c22).trans ((if_pos c35).trans ((if_pos c40).trans rfl))))
              · refine lv_iconst (v := 1) hx hb dX3_fetchedBefore_43 (by decide) ?_
                refine lv_goto (tgt := 48) hx hb dX3_fetchedBefore_44 (by decide) ?_
                exact hJ _ (congrArg b2i ((if_neg c22).trans ((if_pos c35).trans ((if_neg c40).trans rfl))))
  exact LOOP _ 0 0 (Nat.lt_succ_self _) hv ls (lv_sub hl [2, 3, 1, 0] rfl)
theorem hd_X3_toFetch : yX3_toFetch.cls ≠ "java/lang/invoke/MethodHandle" ∧ yX3_toFetch.cls ≠ "java/lang/invoke/VarHandle" ∧ (parseMethodDescriptor yX3_toFetch.desc).map (fun d => d.parameters.length) = some 1 := by decide +kernel
def LX3_toFetch_2 (O : OF) (p1 : Int32) : Nat → Int32 → Int32
  | 0 => fun _ => 0
  | n + 1 => fun x2 => (if (O.1 2) ≤ x2 then (-1) else (if (sX3_isOutAndRecalled O x2) = true then (if (sX3_fetchedBefore O x2) = p1 then x2 else (LX3_toFetch_2 O p1 n (x2 + 1))) else (LX3_toFetch_2 O p1 n (x2 + 1))))
theorem LX3_toFetch_2_eq (O : OF) (p1 : Int32) (n : Nat) (x2 : Int32) : LX3_toFetch_2 O p1 (n + 1) x2 = (if (O.1 2) ≤ x2 then (-1) else (if (sX3_isOutAndRecalled O x2) = true then (if (sX3_fetchedBefore O x2) = p1 then x2 else (LX3_toFetch_2 O p1 n (x2 + 1))) else (LX3_toFetch_2 O p1 n (x2 + 1)))) := rfl
def sX3_toFetch (O : OF) (p1 : Int32) : Int32 := (LX3_toFetch_2 O p1 (upM (O.1 2) 0 + 1) 0)
set_option maxHeartbeats 4000000 in
set_option maxRecDepth 100000 in
theorem c_X3_toFetch (l : Launch) (D : va_G) (cs : Nat → ClassId) (a : Nat → Nat) (O : OF) (p1 : Int32) : Met l yX3_toFetch (wc yX3_toFetch cX3_toFetch 3 (some .int)) ({ frames := 4, cells := 0, slots := 0, locals := 87 } : Room) (va_Pc [.ref (a 2), .int p1] (PE D cs (ofW cs a O))) (vp_Si (fun r9 => r9 = (sX3_toFetch O p1))) 0 0 (fun _ => False) := by
  obtain ⟨v, hv⟩ : ∃ v, sX3_toFetch O p1 = v := ⟨_, rfl⟩
  rw [hv]
  refine met_o (lv := [(0, .ref (a 2)), (1, .int p1)]) (by decide) (Nat.le_of_ble_eq_true rfl) rfl ?_
  intro p e s m args below meth c ls hx hb hr hml hts hown hlocks hin hP hE hl
  have hown : s.vm.findClass RX3 = some m.cls := hown
  have hK := hE.1
  have hP : va_P D vwC (ofW cs a O) s.heap := hP
  unfold sX3_toFetch at hv
  refine lv_iconst (v := 0) hx hb dX3_toFetch_0 (by decide) ?_
  refine lv_istore_n (lv' := [(2, .int 0), (0, .ref (a 2)), (1, .int p1)]) hx hb dX3_toFetch_1 rfl hl (by decide) rfl (fun ls hl => ?_)
  have LOOP : ∀ (n : Nat) (x2 : Int32), upM (O.1 2) x2 < n → LX3_toFetch_2 O p1 n x2 = v → ∀ ls : Array Slot, lv_has ls 3 [(0, .ref (a 2)), (1, .int p1), (2, .int x2)] → W p l e ({ frames := 4, cells := 0, slots := 0, locals := 87 } : Room) s m args below meth c s.heap [] 0 0 (MQ below (vp_Si (fun r9 => r9 = v)) args s 0 0 (fun _ => False)) (F0 m 2 ls []) := by
    clear hv
    intro n
    induction n with
    | zero => intro x2 hm; exact absurd hm (Nat.not_lt_zero _)
    | succ n ih =>
      intro x2 hm hv ls hl
      have hv := (LX3_toFetch_2_eq O p1 n x2).symm.trans hv
      refine lv_iload_n hx hb dX3_toFetch_2 rfl (lv_at hl 2 rfl) ?_
      refine lv_aload_n hx hb dX3_toFetch_3 rfl (lv_at hl 0 rfl) ?_
      refine va_get (D := D) (ci := 3) (v := .int (O.1 2)) (C := RX3) (T := TX3) (N := 8) hx hb hts iw_X3 hown hK hP 2 rfl rfl 0 (by decide) (hts _ w_fl_X3_30) (fun _ h9 => h9) rfl dX3_toFetch_4 ?_
      refine lv_icmp_ge (tgt := 35) hx hb dX3_toFetch_7 (by decide) (fun c7 => ?_) (fun c7 => ?_)
      · have hv := (if_pos c7).symm.trans hv
        refine lv_iconst (v := (-1)) hx hb dX3_toFetch_35 (by decide) ?_
        exact W.iret (v := (-1)) hx hb hr (fun t ht hW => ⟨(-1), rfl, hv, ht⟩) (fun _ h => nomatch h) dX3_toFetch_36 (hlocks := hlocks)
      · have hv := (if_neg c7).symm.trans hv
        refine lv_aload_n hx hb dX3_toFetch_10 rfl (lv_at hl 0 rfl) ?_
        refine lv_iload_n hx hb dX3_toFetch_11 rfl (lv_at hl 2 rfl) ?_
        refine ro_i (b2i (sX3_isOutAndRecalled O x2)) (run_c (va_runV (As := [.int x2]) (rest := []) ⟨hx, hb, hml, hown, hts⟩ (c_X3_isOutAndRecalled l D cs a O x2) (cwV 1 hts (good_V w_ml_X3_58 w_im_X3_isOutAndRecalled w_se_X3_isOutAndRecalled w_in_X3 w_co_X3_isOutAndRecalled) rfl rfl rfl ⟨rfl, hd_X3_isOutAndRecalled⟩ ⟨Nat.le_of_ble_eq_true rfl, Nat.le_of_ble_eq_true rfl⟩) (pe_W (C := RX3) (T := TX3) (N := 8) (ci := 3) (q0 := 2) hP hE rfl rfl) rfl rfl hl.1 rfl (lv_room (Nat.le_of_ble_eq_true rfl)) dX3_toFetch_12 ⟨Nat.zero_le _, Nat.zero_le _⟩)) ?_
        refine lv_if_eq (tgt := 29) hx hb dX3_toFetch_15 (by decide) (fun c15 => ?_) (fun c15 => ?_)
        · have c15 := b2i_f c15
          have hv := (if_neg c15).symm.trans hv
          refine lv_iinc (v := x2 + 1) (lv' := [(2, .int (x2 + 1)), (0, .ref (a 2)), (1, .int p1)]) hx hb dX3_toFetch_29 hl (k := 2) rfl rfl (by decide) rfl (fun ls hl => ?_)
          refine lv_goto (tgt := 2) hx hb dX3_toFetch_32 (by decide) ?_
          exact ih (x2 + 1) (upM_s c7 hm) hv ls (lv_sub hl [1, 2, 0] rfl)
        · have c15 := b2i_t c15
          have hv := (if_pos c15).symm.trans hv
          refine lv_aload_n hx hb dX3_toFetch_18 rfl (lv_at hl 0 rfl) ?_
          refine lv_iload_n hx hb dX3_toFetch_19 rfl (lv_at hl 2 rfl) ?_
          refine ro_i (sX3_fetchedBefore O x2) (run_c (va_runV (As := [.int x2]) (rest := []) ⟨hx, hb, hml, hown, hts⟩ (c_X3_fetchedBefore l D cs a O x2) (cwV 1 hts (good_V w_ml_X3_87 w_im_X3_fetchedBefore w_se_X3_fetchedBefore w_in_X3 w_co_X3_fetchedBefore) rfl rfl rfl ⟨rfl, hd_X3_fetchedBefore⟩ ⟨Nat.le_of_ble_eq_true rfl, Nat.le_of_ble_eq_true rfl⟩) (pe_W (C := RX3) (T := TX3) (N := 8) (ci := 3) (q0 := 2) hP hE rfl rfl) rfl rfl hl.1 rfl (lv_room (Nat.le_of_ble_eq_true rfl)) dX3_toFetch_20 ⟨Nat.zero_le _, Nat.zero_le _⟩)) ?_
          refine lv_iload_n hx hb dX3_toFetch_23 rfl (lv_at hl 1 rfl) ?_
          refine lv_icmp_ne (tgt := 29) hx hb dX3_toFetch_24 (by decide) (fun c24 => ?_) (fun c24 => ?_)
          · have hv := (if_neg c24).symm.trans hv
            refine lv_iinc (v := x2 + 1) (lv' := [(2, .int (x2 + 1)), (0, .ref (a 2)), (1, .int p1)]) hx hb dX3_toFetch_29 hl (k := 2) rfl rfl (by decide) rfl (fun ls hl => ?_)
            refine lv_goto (tgt := 2) hx hb dX3_toFetch_32 (by decide) ?_
            exact ih (x2 + 1) (upM_s c7 hm) hv ls (lv_sub hl [1, 2, 0] rfl)
          · have hv := (if_pos c24).symm.trans hv
            refine lv_iload_n hx hb dX3_toFetch_27 rfl (lv_at hl 2 rfl) ?_
            exact W.iret (v := x2) hx hb hr (fun t ht hW => ⟨x2, rfl, hv, ht⟩) (fun _ h => nomatch h) dX3_toFetch_28 (hlocks := hlocks)
  exact LOOP _ 0 (Nat.lt_succ_self _) hv ls (lv_sub hl [1, 2, 0] rfl)
