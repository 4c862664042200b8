theorem hd_X4_drawnOf : yX4_drawnOf.cls ≠ "java/lang/invoke/MethodHandle" ∧ yX4_drawnOf.cls ≠ "java/lang/invoke/VarHandle" ∧ (parseMethodDescriptor yX4_drawnOf.desc).map (fun d => d.parameters.length) = some 2 := by decide +kernel
def sX4_drawnOf (O : OF) (p1 : Int32) (p2 : Int32) : Int32 := (if (sX4_has O p1) = true then (if (sX7_isField p2) = true then (O.2 7) ((p1 * 12) + p2).toNatClampNeg else (-1 : Int32)) else (-1 : Int32))
set_option maxHeartbeats 4000000 in
set_option maxRecDepth 100000 in
theorem c_X4_drawnOf (l : Launch) (D : va_G) (cs : Nat → ClassId) (a : Nat → Nat) (O : OF) (p1 : Int32) (p2 : Int32) : Met l yX4_drawnOf (wc yX4_drawnOf cX4_drawnOf 3 (some .int)) ({ frames := 1, cells := 0, slots := 0, locals := 21 } : Room) (va_Pc [.ref (a 1), .int p1, .int p2] (PE D cs (ofW cs a O))) (vp_Si (fun r9 => r9 = (sX4_drawnOf O p1 p2))) 0 0 (fun _ => False) := by
  obtain ⟨v, hv⟩ : ∃ v, sX4_drawnOf O p1 p2 = v := ⟨_, rfl⟩
  rw [hv]
  refine met_o (lv := [(0, .ref (a 1)), (1, .int p1), (2, .int p2)]) (by decide) (Nat.le_of_ble_eq_true rfl) rfl ?_
  intro p e s m args below meth c ls hx hb hr hml hts hown hlocks hin hP hE hl
  have hown : s.vm.findClass RX4 = some m.cls := hown
  have hK := hE.1
  have hP : va_P D vwC (ofW cs a O) s.heap := hP
  unfold sX4_drawnOf at hv
  refine lv_aload_n hx hb dX4_drawnOf_0 rfl (lv_at hl 0 rfl) ?_
  refine lv_iload_n hx hb dX4_drawnOf_1 rfl (lv_at hl 1 rfl) ?_
  refine ro_i (b2i (sX4_has O p1)) (run_c (va_runV (As := [.int p1]) (rest := []) ⟨hx, hb, hml, hown, hts⟩ (c_X4_has l D cs a O p1) (cwV 1 hts (good_V w_ml_X4_34 w_im_X4_has w_se_X4_has w_in_X4 w_co_X4_has) rfl rfl rfl ⟨rfl, hd_X4_has⟩ ⟨Nat.le_of_ble_eq_true rfl, Nat.le_of_ble_eq_true rfl⟩) (pe_W (C := RX4) (T := TX4) (N := 5) (ci := 4) (q0 := 1) hP hE rfl rfl) rfl rfl hl.1 rfl (lv_room (Nat.le_of_ble_eq_true rfl)) dX4_drawnOf_2 ⟨Nat.zero_le _, Nat.zero_le _⟩)) ?_
  refine join_i (J := 30) (ls := ls) (rest := []) ((if (sX4_has O p1) = true then (if (sX7_isField p2) = true then (O.2 7) ((p1 * 12) + p2).toNatClampNeg else (-1 : Int32)) else (-1 : Int32))) ?_ (fun hJ => ?_)
  · exact W.iret (v := (if (sX4_has O p1) = true then (if (sX7_isField p2) = true then (O.2 7) ((p1 * 12) + p2).toNatClampNeg else (-1 : Int32)) else (-1 : Int32))) hx hb hr (fun t ht hW => ⟨(if (sX4_has O p1) = true then (if (sX7_isField p2) = true then (O.2 7) ((p1 * 12) + p2).toNatClampNeg else (-1 : Int32)) else (-1 : Int32)), rfl, hv, ht⟩) (fun _ h => nomatch h) dX4_drawnOf_30 (hlocks := hlocks)
  · refine lv_if_eq (tgt := 29) hx hb dX4_drawnOf_5 (by decide) (fun c5 => ?_) (fun c5 => ?_)
    · have c5 := b2i_f c5
      refine lv_iconst (v := (-1)) hx hb dX4_drawnOf_29 (by decide) ?_
      exact hJ _ ((if_neg c5).trans rfl)
    · have c5 := b2i_t c5
      refine lv_iload_n hx hb dX4_drawnOf_8 rfl (lv_at hl 2 rfl) ?_
      refine ro_i (b2i (sX7_isField p2)) (run_c (va_runSN (As := [.int p2]) (rest := []) ⟨hx, hb, hml, hown, hts⟩ (c_X7_isField l D cs p2) ⟨va_cnB 1 hts (good_code w_co_X7_isField) rfl rfl rfl (hE.2.1 ("TrueSheets$Sheets", 38, yX7_isField) (List.mem_of_getElem? (i := 3) rfl)) (hts _ w_in_X7) hd_X7_isField ⟨Nat.le_of_ble_eq_true rfl, Nat.le_of_ble_eq_true rfl⟩, hts _ w_st_X7_isField, trivial⟩ (pe_S (p_nil D _) hE) rfl rfl hl.1 rfl (lv_room (Nat.le_of_ble_eq_true rfl)) dX4_drawnOf_9 ⟨Nat.zero_le _, Nat.zero_le _⟩)) ?_
      refine lv_if_eq (tgt := 29) hx hb dX4_drawnOf_12 (by decide) (fun c12 => ?_) (fun c12 => ?_)
      · have c12 := b2i_f c12
        refine lv_iconst (v := (-1)) hx hb dX4_drawnOf_29 (by decide) ?_
        exact hJ _ ((if_pos c5).trans ((if_neg c12).trans rfl))
      · have c12 := b2i_t c12
        refine lv_aload_n hx hb dX4_drawnOf_15 rfl (lv_at hl 0 rfl) ?_
        refine va_get (D := D) (ci := 4) (v := .ref (a 7)) (C := RX4) (T := TX4) (N := 5) hx hb hts iw_X4 hown hK hP 1 rfl rfl 4 (by decide) (hts _ w_fl_X4_18) (fun _ h9 => h9) rfl dX4_drawnOf_16 ?_
        refine lv_iload_n hx hb dX4_drawnOf_19 rfl (lv_at hl 1 rfl) ?_
        refine lv_bipush (v := 12) hx hb dX4_drawnOf_20 (by decide) ?_
        refine lv_imul hx hb dX4_drawnOf_22 ?_
        refine lv_iload_n hx hb dX4_drawnOf_23 rfl (lv_at hl 2 rfl) ?_
        refine lv_iadd hx hb dX4_drawnOf_24 ?_
        refine va_iald (cA := cs 0) (n := 120) (f := (O.2 7)) hx hb hK hP 7 0 rfl rfl (dr_in (X4_in (by assumption)) (in_X7_isField (by assumption))) dX4_drawnOf_25 ?_
        refine lv_goto (tgt := 30) hx hb dX4_drawnOf_26 (by decide) ?_
        exact hJ _ ((if_pos c5).trans ((if_pos c12).trans rfl))
theorem hd_X4_isToCheck : yX4_isToCheck.cls ≠ "java/lang/invoke/MethodHandle" ∧ yX4_isToCheck.cls ≠ "java/lang/invoke/VarHandle" ∧ (parseMethodDescriptor yX4_isToCheck.desc).map (fun d => d.parameters.length) = some 1 := by decide +kernel
def sX4_isToCheck (O : OF) (p1 : Int32) : Bool := (sX7_isIn (O.1 1) p1)
set_option maxHeartbeats 4000000 in
set_option maxRecDepth 100000 in
theorem c_X4_isToCheck (l : Launch) (D : va_G) (cs : Nat → ClassId) (a : Nat → Nat) (O : OF) (p1 : Int32) : Met l yX4_isToCheck (wc yX4_isToCheck cX4_isToCheck 2 (some .boolean)) ({ frames := 1, cells := 0, slots := 0, locals := 21 } : Room) (va_Pc [.ref (a 1), .int p1] (PE D cs (ofW cs a O))) (vp_Si (fun r9 => r9 = b2i (sX4_isToCheck O p1))) 0 0 (fun _ => False) := by
  obtain ⟨v, hv⟩ : ∃ v, sX4_isToCheck O p1 = v := ⟨_, rfl⟩
  rw [hv]
  refine met_o (lv := [(0, .ref (a 1)), (1, .int p1)]) (by decide) (Nat.le_of_ble_eq_true rfl) rfl ?_
  intro p e s m args below meth c ls hx hb hr hml hts hown hlocks hin hP hE hl
  have hown : s.vm.findClass RX4 = some m.cls := hown
  have hK := hE.1
  have hP : va_P D vwC (ofW cs a O) s.heap := hP
  unfold sX4_isToCheck at hv
  refine lv_aload_n hx hb dX4_isToCheck_0 rfl (lv_at hl 0 rfl) ?_
  refine va_get (D := D) (ci := 4) (v := .int (O.1 1)) (C := RX4) (T := TX4) (N := 5) hx hb hts iw_X4 hown hK hP 1 rfl rfl 1 (by decide) (hts _ w_fl_X4_25) (fun _ h9 => h9) rfl dX4_isToCheck_1 ?_
  refine lv_iload_n hx hb dX4_isToCheck_4 rfl (lv_at hl 1 rfl) ?_
  refine ro_i (b2i (sX7_isIn (O.1 1) p1)) (run_c (va_runSN (As := [.int (O.1 1), .int p1]) (rest := []) ⟨hx, hb, hml, hown, hts⟩ (c_X7_isIn l D cs (O.1 1) p1) ⟨va_cnB 2 hts (good_code w_co_X7_isIn) rfl rfl rfl (hE.2.1 ("TrueSheets$Sheets", 41, yX7_isIn) (List.mem_of_getElem? (i := 2) rfl)) (hts _ w_in_X7) hd_X7_isIn ⟨Nat.le_of_ble_eq_true rfl, Nat.le_of_ble_eq_true rfl⟩, hts _ w_st_X7_isIn, trivial⟩ (pe_S (p_nil D _) hE) rfl rfl hl.1 rfl (lv_room (Nat.le_of_ble_eq_true rfl)) dX4_isToCheck_5 ⟨Nat.zero_le _, Nat.zero_le _⟩)) ?_
  exact W.zret (ty := .boolean) (v := b2i (sX7_isIn (O.1 1) p1)) hx hb hr (b2i_nar (sX7_isIn (O.1 1) p1)) (fun t ht hW => ⟨b2i (sX7_isIn (O.1 1) p1), rfl, congrArg b2i hv, ht⟩) (fun _ h => nomatch h) dX4_isToCheck_8 (hlocks := hlocks)
theorem hd_X4_toCheckCount : yX4_toCheckCount.cls ≠ "java/lang/invoke/MethodHandle" ∧ yX4_toCheckCount.cls ≠ "java/lang/invoke/VarHandle" ∧ (parseMethodDescriptor yX4_toCheckCount.desc).map (fun d => d.parameters.length) = some 0 := by decide +kernel
def sX4_toCheckCount (O : OF) : Int32 := sJ6_bitCount_0f7a4 (O.1 1)
set_option maxHeartbeats 4000000 in
set_option maxRecDepth 100000 in
theorem c_X4_toCheckCount (l : Launch) (D : va_G) (cs : Nat → ClassId) (a : Nat → Nat) (O : OF) : Met l yX4_toCheckCount (wc yX4_toCheckCount cX4_toCheckCount 1 (some .int)) ({ frames := 1, cells := 0, slots := 0, locals := 20 } : Room) (va_Pc [.ref (a 1)] (PE D cs (ofW cs a O))) (vp_Si (fun r9 => r9 = (sX4_toCheckCount O))) 0 0 (fun _ => False) := by
  obtain ⟨v, hv⟩ : ∃ v, sX4_toCheckCount O = v := ⟨_, rfl⟩
  rw [hv]
  refine met_o (lv := [(0, .ref (a 1))]) (by decide) (Nat.le_of_ble_eq_true rfl) rfl ?_
  intro p e s m args below meth c ls hx hb hr hml hts hown hlocks hin hP hE hl
  have hown : s.vm.findClass RX4 = some m.cls := hown
  have hK := hE.1
  have hP : va_P D vwC (ofW cs a O) s.heap := hP
  unfold sX4_toCheckCount at hv
  refine lv_aload_n hx hb dX4_toCheckCount_0 rfl (lv_at hl 0 rfl) ?_
  refine va_get (D := D) (ci := 4) (v := .int (O.1 1)) (C := RX4) (T := TX4) (N := 5) hx hb hts iw_X4 hown hK hP 1 rfl rfl 1 (by decide) (hts _ w_fl_X4_25) (fun _ h9 => h9) rfl dX4_toCheckCount_1 ?_
  refine ro_i (sJ6_bitCount_0f7a4 (O.1 1)) (run_c (va_runS (As := [.int (O.1 1)]) (rest := []) ⟨hx, hb, hml, hown, hts⟩ (c_J6_bitCount_0f7a4 l D cs (O.1 1)) (va_cwS 1 hts (good_T w_ml_X4_45 w_st_J6_bitCount_0f7a4 w_in_J6 w_co_J6_bitCount_0f7a4) rfl rfl rfl hd_J6_bitCount_0f7a4 ⟨Nat.le_of_ble_eq_true rfl, Nat.le_of_ble_eq_true rfl⟩) (pe_S (p_nil D _) hE) rfl rfl hl.1 rfl (lv_room (Nat.le_of_ble_eq_true rfl)) dX4_toCheckCount_4 ⟨Nat.zero_le _, Nat.zero_le _⟩)) ?_
  exact W.iret (v := sJ6_bitCount_0f7a4 (O.1 1)) hx hb hr (fun t ht hW => ⟨sJ6_bitCount_0f7a4 (O.1 1), rfl, hv, ht⟩) (fun _ h => nomatch h) dX4_toCheckCount_7 (hlocks := hlocks)
theorem hd_X4_fieldsDrawn : yX4_fieldsDrawn.cls ≠ "java/lang/invoke/MethodHandle" ∧ yX4_fieldsDrawn.cls ≠ "java/lang/invoke/VarHandle" ∧ (parseMethodDescriptor yX4_fieldsDrawn.desc).map (fun d => d.parameters.length) = some 3 := by decide +kernel
def LX4_fieldsDrawn_6 (O : OF) (p1 : Int32) (p2 : Int32) (p3 : Int32) : Nat → Int32 → Int32 → Int32
  | 0 => fun _ _ => 0
  | n + 1 => fun x4 x5 => (if 12 ≤ x5 then x4 else (if (sX4_drawnOf O p1 x5) < p2 then (LX4_fieldsDrawn_6 O p1 p2 p3 n x4 (x5 + 1)) else (if p3 < (sX4_drawnOf O p1 x5) then (LX4_fieldsDrawn_6 O p1 p2 p3 n x4 (x5 + 1)) else (LX4_fieldsDrawn_6 O p1 p2 p3 n (x4 ||| (1 <<< (x5 &&& 31))) (x5 + 1)))))
theorem LX4_fieldsDrawn_6_eq (O : OF) (p1 : Int32) (p2 : Int32) (p3 : Int32) (n : Nat) (x4 : Int32) (x5 : Int32) : LX4_fieldsDrawn_6 O p1 p2 p3 (n + 1) x4 x5 = (if 12 ≤ x5 then x4 else (if (sX4_drawnOf O p1 x5) < p2 then (LX4_fieldsDrawn_6 O p1 p2 p3 n x4 (x5 + 1)) else (if p3 < (sX4_drawnOf O p1 x5) then (LX4_fieldsDrawn_6 O p1 p2 p3 n x4 (x5 + 1)) else (LX4_fieldsDrawn_6 O p1 p2 p3 n (x4 ||| (1 <<< (x5 &&& 31))) (x5 + 1))))) := rfl
def sX4_fieldsDrawn (O : OF) (p1 : Int32) (p2 : Int32) (p3 : Int32) : Int32 := (LX4_fieldsDrawn_6 O p1 p2 p3 (upM 12 0 + 1) 0 0)
set_option maxHeartbeats 4000000 in
set_option maxRecDepth 100000 in
theorem c_X4_fieldsDrawn (l : Launch) (D : va_G) (cs : Nat → ClassId) (a : Nat → Nat) (O : OF) (p1 : Int32) (p2 : Int32) (p3 : Int32) : Met l yX4_fieldsDrawn (wc yX4_fieldsDrawn cX4_fieldsDrawn 7 (some .int)) ({ frames := 2, cells := 0, slots := 0, locals := 43 } : Room) (va_Pc [.ref (a 1), .int p1, .int p2, .int p3] (PE D cs (ofW cs a O))) (vp_Si (fun r9 => r9 = (sX4_fieldsDrawn O p1 p2 p3))) 0 0 (fun _ => False) := by
  obtain ⟨v, hv⟩ : ∃ v, sX4_fieldsDrawn O p1 p2 p3 = v := ⟨_, rfl⟩
  rw [hv]
  refine met_o (lv := [(0, .ref (a 1)), (1, .int p1), (2, .int p2), (3, .int p3)]) (by decide) (Nat.le_of_ble_eq_true rfl) rfl ?_
  intro p e s m args below meth c ls hx hb hr hml hts hown hlocks hin hP hE hl
  have hown : s.vm.findClass RX4 = some m.cls := hown
  have hK := hE.1
  have hP : va_P D vwC (ofW cs a O) s.heap := hP
  unfold sX4_fieldsDrawn at hv
  refine lv_iconst (v := 0) hx hb dX4_fieldsDrawn_0 (by decide) ?_
  refine lv_istore (lv' := [(4, .int 0), (0, .ref (a 1)), (1, .int p1), (2, .int p2), (3, .int p3)]) hx hb dX4_fieldsDrawn_1 hl (by decide) rfl (fun ls hl => ?_)
  refine lv_iconst (v := 0) hx hb dX4_fieldsDrawn_3 (by decide) ?_
  refine lv_istore (lv' := [(5, .int 0), (4, .int 0), (0, .ref (a 1)), (1, .int p1), (2, .int p2), (3, .int p3)]) hx hb dX4_fieldsDrawn_4 hl (by decide) rfl (fun ls hl => ?_)
  have LOOP : ∀ (n : Nat) (x4 : Int32) (x5 : Int32), upM 12 x5 < n → LX4_fieldsDrawn_6 O p1 p2 p3 n x4 x5 = v → ∀ ls : Array Slot, lv_has ls 7 [(0, .ref (a 1)), (1, .int p1), (2, .int p2), (3, .int p3), (4, .int x4), (5, .int x5)] → W p l e ({ frames := 2, cells := 0, slots := 0, locals := 43 } : Room) s m args below meth c s.heap [] 0 0 (MQ below (vp_Si (fun r9 => r9 = v)) args s 0 0 (fun _ => False)) (F0 m 6 ls []) := by
    clear hv
    intro n
    induction n with
    | zero => intro x4 x5 hm; exact absurd hm (Nat.not_lt_zero _)
    | succ n ih =>
      intro x4 x5 hm hv ls hl
      have hv := (LX4_fieldsDrawn_6_eq O p1 p2 p3 n x4 x5).symm.trans hv
      refine lv_iload hx hb dX4_fieldsDrawn_6 (lv_at hl 5 rfl) ?_
      refine lv_bipush (v := 12) hx hb dX4_fieldsDrawn_8 (by decide) ?_
      refine lv_icmp_ge (tgt := 49) hx hb dX4_fieldsDrawn_10 (by decide) (fun c10 => ?_) (fun c10 => ?_)
      · have hv := (if_pos c10).symm.trans hv
        refine lv_iload hx hb dX4_fieldsDrawn_49 (lv_at hl 4 rfl) ?_
        exact W.iret (v := x4) hx hb hr (fun t ht hW => ⟨x4, rfl, hv, ht⟩) (fun _ h => nomatch h) dX4_fieldsDrawn_51 (hlocks := hlocks)
      · have hv := (if_neg c10).symm.trans hv
        refine lv_aload_n hx hb dX4_fieldsDrawn_13 rfl (lv_at hl 0 rfl) ?_
        refine lv_iload_n hx hb dX4_fieldsDrawn_14 rfl (lv_at hl 1 rfl) ?_
        refine lv_iload hx hb dX4_fieldsDrawn_15 (lv_at hl 5 rfl) ?_
        refine ro_i (sX4_drawnOf O p1 x5) (run_c (va_runV (As := [.int p1, .int x5]) (rest := []) ⟨hx, hb, hml, hown, hts⟩ (c_X4_drawnOf l D cs a O p1 x5) (cwV 2 hts (good_V w_ml_X4_58 w_im_X4_drawnOf w_se_X4_drawnOf w_in_X4 w_co_X4_drawnOf) rfl rfl rfl ⟨rfl, hd_X4_drawnOf⟩ ⟨Nat.le_of_ble_eq_true rfl, Nat.le_of_ble_eq_true rfl⟩) (pe_W (C := RX4) (T := TX4) (N := 5) (ci := 4) (q0 := 1) hP hE rfl rfl) rfl rfl hl.1 rfl (lv_room (Nat.le_of_ble_eq_true rfl)) dX4_fieldsDrawn_17 ⟨Nat.zero_le _, Nat.zero_le _⟩)) ?_
        refine lv_istore (lv' := [(6, .int (sX4_drawnOf O p1 x5)), (0, .ref (a 1)), (1, .int p1), (2, .int p2), (3, .int p3), (4, .int x4), (5, .int x5)]) hx hb dX4_fieldsDrawn_20 hl (by decide) rfl (fun ls hl => ?_)
        refine lv_iload hx hb dX4_fieldsDrawn_22 (lv_at hl 0 rfl) ?_
        refine lv_iload_n hx hb dX4_fieldsDrawn_24 rfl (lv_at hl 3 rfl) ?_
        refine lv_icmp_lt (tgt := 43) hx hb dX4_fieldsDrawn_25 (by decide) (fun c25 => ?_) (fun c25 => ?_)
        · have hv := (if_pos c25).symm.trans hv
          refine lv_iinc (v := x5 + 1) (lv' := [(5, .int (x5 + 1)), (6, .int (sX4_drawnOf O p1 x5)), (0, .ref (a 1)), (1, .int p1), (2, .int p2), (3, .int p3), (4, .int x4)]) hx hb dX4_fieldsDrawn_43 hl (k := 6) rfl rfl (by decide) rfl (fun ls hl => ?_)
          refine lv_goto (tgt := 6) hx hb dX4_fieldsDrawn_46 (by decide) ?_
          exact ih x4 (x5 + 1) (upM_s c10 hm) hv ls (lv_sub hl [2, 3, 4, 5, 6, 0] rfl)
        · have hv := (if_neg c25).symm.trans hv
          refine lv_iload hx hb dX4_fieldsDrawn_28 (lv_at hl 0 rfl) ?_
          refine lv_iload_n hx hb dX4_fieldsDrawn_30 rfl (lv_at hl 4 rfl) ?_
          refine lv_icmp_gt (tgt := 43) hx hb dX4_fieldsDrawn_31 (by decide) (fun c31 => ?_) (fun c31 => ?_)
          · have hv := (if_pos c31).symm.trans hv
            refine lv_iinc (v := x5 + 1) (lv' := [(5, .int (x5 + 1)), (6, .int (sX4_drawnOf O p1 x5)), (0, .ref (a 1)), (1, .int p1), (2, .int p2), (3, .int p3), (4, .int x4)]) hx hb dX4_fieldsDrawn_43 hl (k := 6) rfl rfl (by decide) rfl (fun ls hl => ?_)
            refine lv_goto (tgt := 6) hx hb dX4_fieldsDrawn_46 (by decide) ?_
            exact ih x4 (x5 + 1) (upM_s c10 hm) hv ls (lv_sub hl [2, 3, 4, 5, 6, 0] rfl)
          · have hv := (if_neg c31).symm.trans hv
            refine lv_iload hx hb dX4_fieldsDrawn_34 (lv_at hl 5 rfl) ?_
            refine lv_iconst (v := 1) hx hb dX4_fieldsDrawn_36 (by decide) ?_
            refine lv_iload hx hb dX4_fieldsDrawn_37 (lv_at hl 6 rfl) ?_
            refine lv_ishl hx hb dX4_fieldsDrawn_39 ?_
            refine lv_ior hx hb dX4_fieldsDrawn_40 ?_
            refine lv_istore (lv' := [(4, .int (x4 ||| (1 <<< (x5 &&& 31)))), (6, .int (sX4_drawnOf O p1 x5)), (0, .ref (a 1)), (1, .int p1), (2, .int p2), (3, .int p3), (5, .int x5)]) hx hb dX4_fieldsDrawn_41 hl (by decide) rfl (fun ls hl => ?_)
            refine lv_iinc (v := x5 + 1) (lv' := [(5, .int (x5 + 1)), (4, .int (x4 ||| (1 <<< (x5 &&& 31)))), (6, .int (sX4_drawnOf O p1 x5)), (0, .ref (a 1)), (1, .int p1), (2, .int p2), (3, .int p3)]) hx hb dX4_fieldsDrawn_43 hl (k := 6) rfl rfl (by decide) rfl (fun ls hl => ?_)
            refine lv_goto (tgt := 6) hx hb dX4_fieldsDrawn_46 (by decide) ?_
            exact ih (x4 ||| (1 <<< (x5 &&& 31))) (x5 + 1) (upM_s c10 hm) hv ls (lv_sub hl [3, 4, 5, 6, 1, 0] rfl)
  exact LOOP _ 0 0 (Nat.lt_succ_self _) hv ls (lv_sub hl [2, 3, 4, 5, 1, 0] rfl)
theorem hd_X4_above : yX4_above.cls ≠ "java/lang/invoke/MethodHandle" ∧ yX4_above.cls ≠ "java/lang/invoke/VarHandle" ∧ (parseMethodDescriptor yX4_above.desc).map (fun d => d.parameters.length) = some 1 := by decide +kernel
def LX4_above_11 (O : OF) (p1 : Int32) : Nat → Int32 → Int32 → Int32 → Int32
  | 0 => fun _ _ _ => 0
  | n + 1 => fun x2 x3 x4 => (if 10 ≤ x4 then x2 else (if (sX4_has O x3) = true then (LX4_above_11 O p1 n (x2 ||| (1 <<< (x3 &&& 31))) (sX4_parentOf O x3) (x4 + 1)) else x2))
theorem LX4_above_11_eq (O : OF) (p1 : Int32) (n : Nat) (x2 : Int32) (x3 : Int32) (x4 : Int32) : LX4_above_11 O p1 (n + 1) x2 x3 x4 = (if 10 ≤ x4 then x2 else (if (sX4_has O x3) = true then (LX4_above_11 O p1 n (x2 ||| (1 <<< (x3 &&& 31))) (sX4_parentOf O x3) (x4 + 1)) else x2)) := rfl
def sX4_above (O : OF) (p1 : Int32) : Int32 := (LX4_above_11 O p1 (upM 10 0 + 1) 0 (sX4_parentOf O p1) 0)
set_option maxHeartbeats 4000000 in
set_option maxRecDepth 100000 in
theorem c_X4_above (l : Launch) (D : va_G) (cs : Nat → ClassId) (a : Nat → Nat) (O : OF) (p1 : Int32) : Met l yX4_above (wc yX4_above cX4_above 5 (some .int)) ({ frames := 2, cells := 0, slots := 0, locals := 42 } : Room) (va_Pc [.ref (a 1), .int p1] (PE D cs (ofW cs a O))) (vp_Si (fun r9 => r9 = (sX4_above O p1))) 0 0 (fun _ => False) := by
  obtain ⟨v, hv⟩ : ∃ v, sX4_above O p1 = v := ⟨_, rfl⟩
  rw [hv]
  refine met_o (lv := [(0, .ref (a 1)), (1, .int p1)]) (by decide) (Nat.le_of_ble_eq_true rfl) rfl ?_
  intro p e s m args below meth c ls hx hb hr hml hts hown hlocks hin hP hE hl
  have hown : s.vm.findClass RX4 = some m.cls := hown
  have hK := hE.1
  have hP : va_P D vwC (ofW cs a O) s.heap := hP
  unfold sX4_above at hv
  refine lv_iconst (v := 0) hx hb dX4_above_0 (by decide) ?_
  refine lv_istore_n (lv' := [(2, .int 0), (0, .ref (a 1)), (1, .int p1)]) hx hb dX4_above_1 rfl hl (by decide) rfl (fun ls hl => ?_)
  refine lv_aload_n hx hb dX4_above_2 rfl (lv_at hl 1 rfl) ?_
  refine lv_iload_n hx hb dX4_above_3 rfl (lv_at hl 2 rfl) ?_
  refine ro_i (sX4_parentOf O p1) (run_c (va_runV (As := [.int p1]) (rest := []) ⟨hx, hb, hml, hown, hts⟩ (c_X4_parentOf l D cs a O p1) (cwV 1 hts (good_V w_ml_X4_62 w_im_X4_parentOf w_se_X4_parentOf w_in_X4 w_co_X4_parentOf) rfl rfl rfl ⟨rfl, hd_X4_parentOf⟩ ⟨Nat.le_of_ble_eq_true rfl, Nat.le_of_ble_eq_true rfl⟩) (pe_W (C := RX4) (T := TX4) (N := 5) (ci := 4) (q0 := 1) hP hE rfl rfl) rfl rfl hl.1 rfl (lv_room (Nat.le_of_ble_eq_true rfl)) dX4_above_4 ⟨Nat.zero_le _, Nat.zero_le _⟩)) ?_
  refine lv_istore_n (lv' := [(3, .int (sX4_parentOf O p1)), (2, .int 0), (0, .ref (a 1)), (1, .int p1)]) hx hb dX4_above_7 rfl hl (by decide) rfl (fun ls hl => ?_)
  refine lv_iconst (v := 0) hx hb dX4_above_8 (by decide) ?_
  refine lv_istore (lv' := [(4, .int 0), (3, .int (sX4_parentOf O p1)), (2, .int 0), (0, .ref (a 1)), (1, .int p1)]) hx hb dX4_above_9 hl (by decide) rfl (fun ls hl => ?_)
  have LOOP : ∀ (n : Nat) (x2 : Int32) (x3 : Int32) (x4 : Int32), upM 10 x4 < n → LX4_above_11 O p1 n x2 x3 x4 = v → ∀ ls : Array Slot, lv_has ls 5 [(0, .ref (a 1)), (1, .int p1), (2, .int x2), (3, .int x3), (4, .int x4)] → W p l e ({ frames := 2, cells := 0, slots := 0, locals := 42 } : Room) s m args below meth c s.heap [] 0 0 (MQ below (vp_Si (fun r9 => r9 = v)) args s 0 0 (fun _ => False)) (F0 m 11 ls []) := by
    clear hv
    intro n
    induction n with
    | zero => intro x2 x3 x4 hm; exact absurd hm (Nat.not_lt_zero _)
    | succ n ih =>
      intro x2 x3 x4 hm hv ls hl
      have hv := (LX4_above_11_eq O p1 n x2 x3 x4).symm.trans hv
      refine lv_iload hx hb dX4_above_11 (lv_at hl 4 rfl) ?_
      refine lv_bipush (v := 10) hx hb dX4_above_13 (by decide) ?_
      refine lv_icmp_ge (tgt := 44) hx hb dX4_above_15 (by decide) (fun c15 => ?_) (fun c15 => ?_)
      · have hv := (if_pos c15).symm.trans hv
        refine lv_iload_n hx hb dX4_above_44 rfl (lv_at hl 2 rfl) ?_
        exact W.iret (v := x2) hx hb hr (fun t ht hW => ⟨x2, rfl, hv, ht⟩) (fun _ h => nomatch h) dX4_above_45 (hlocks := hlocks)
      · have hv := (if_neg c15).symm.trans hv
        refine lv_aload_n hx hb dX4_above_18 rfl (lv_at hl 0 rfl) ?_
        refine lv_iload_n hx hb dX4_above_19 rfl (lv_at hl 3 rfl) ?_
        refine ro_i (b2i (sX4_has O x3)) (run_c (va_runV (As := [.int x3]) (rest := []) ⟨hx, hb, hml, hown, hts⟩ (c_X4_has l D cs a O x3) (cwV 1 hts (good_V w_ml_X4_34 w_im_X4_has w_se_X4_has w_in_X4 w_co_X4_has) rfl rfl rfl ⟨rfl, hd_X4_has⟩ ⟨Nat.le_of_ble_eq_true rfl, Nat.le_of_ble_eq_true rfl⟩) (pe_W (C := RX4) (T := TX4) (N := 5) (ci := 4) (q0 := 1) hP hE rfl rfl) rfl rfl hl.1 rfl (lv_room (Nat.le_of_ble_eq_true rfl)) dX4_above_20 ⟨Nat.zero_le _, Nat.zero_le _⟩)) ?_
        refine lv_if_eq (tgt := 44) hx hb dX4_above_23 (by decide) (fun c23 => ?_) (fun c23 => ?_)
        · have c23 := b2i_f c23
          have hv := (if_neg c23).symm.trans hv
          refine lv_iload_n hx hb dX4_above_44 rfl (lv_at hl 2 rfl) ?_
          exact W.iret (v := x2) hx hb hr (fun t ht hW => ⟨x2, rfl, hv, ht⟩) (fun _ h => nomatch h) dX4_above_45 (hlocks := hlocks)
        · have c23 := b2i_t c23
          have hv := (if_pos c23).symm.trans hv
          refine lv_iload_n hx hb dX4_above_26 rfl (lv_at hl 2 rfl) ?_
          refine lv_iconst (v := 1) hx hb dX4_above_27 (by decide) ?_
          refine lv_iload_n hx hb dX4_above_28 rfl (lv_at hl 3 rfl) ?_
          refine lv_ishl hx hb dX4_above_29 ?_
          refine lv_ior hx hb dX4_above_30 ?_
          refine lv_istore_n (lv' := [(2, .int (x2 ||| (1 <<< (x3 &&& 31)))), (0, .ref (a 1)), (1, .int p1), (3, .int x3), (4, .int x4)]) hx hb dX4_above_31 rfl hl (by decide) rfl (fun ls hl => ?_)
          refine lv_aload_n hx hb dX4_above_32 rfl (lv_at hl 1 rfl) ?_
          refine lv_iload_n hx hb dX4_above_33 rfl (lv_at hl 3 rfl) ?_
          refine ro_i (sX4_parentOf O x3) (run_c (va_runV (As := [.int x3]) (rest := []) ⟨hx, hb, hml, hown, hts⟩ (c_X4_parentOf l D cs a O x3) (cwV 1 hts (good_V w_ml_X4_62 w_im_X4_parentOf w_se_X4_parentOf w_in_X4 w_co_X4_parentOf) rfl rfl rfl ⟨rfl, hd_X4_parentOf⟩ ⟨Nat.le_of_ble_eq_true rfl, Nat.le_of_ble_eq_true rfl⟩) (pe_W (C := RX4) (T := TX4) (N := 5) (ci := 4) (q0 := 1) hP hE rfl rfl) rfl rfl hl.1 rfl (lv_room (Nat.le_of_ble_eq_true rfl)) dX4_above_34 ⟨Nat.zero_le _, Nat.zero_le _⟩)) ?_
          refine lv_istore_n (lv' := [(3, .int (sX4_parentOf O x3)), (2, .int (x2 ||| (1 <<< (x3 &&& 31)))), (0, .ref (a 1)), (1, .int p1), (4, .int x4)]) hx hb dX4_above_37 rfl hl (by decide) rfl (fun ls hl => ?_)
          refine lv_iinc (v := x4 + 1) (lv' := [(4, .int (x4 + 1)), (3, .int (sX4_parentOf O x3)), (2, .int (x2 ||| (1 <<< (x3 &&& 31)))), (0, .ref (a 1)), (1, .int p1)]) hx hb dX4_above_38 hl (k := 4) rfl rfl (by decide) rfl (fun ls hl => ?_)
          refine lv_goto (tgt := 11) hx hb dX4_above_41 (by decide) ?_
          exact ih (x2 ||| (1 <<< (x3 &&& 31))) (sX4_parentOf O x3) (x4 + 1) (upM_s c15 hm) hv ls (lv_sub hl [3, 4, 2, 1, 0] rfl)
  exact LOOP _ 0 (sX4_parentOf O p1) 0 (Nat.lt_succ_self _) hv ls (lv_sub hl [3, 4, 2, 1, 0] rfl)
theorem hd_X4_aboveNotToCheck : yX4_aboveNotToCheck.cls ≠ "java/lang/invoke/MethodHandle" ∧ yX4_aboveNotToCheck.cls ≠ "java/lang/invoke/VarHandle" ∧ (parseMethodDescriptor yX4_aboveNotToCheck.desc).map (fun d => d.parameters.length) = some 1 := by decide +kernel
def sX4_aboveNotToCheck (O : OF) (p1 : Int32) : Int32 := sJ6_bitCount_0f7a4 ((sX4_above O p1) &&& ((O.1 1) ^^^ (-1)))
set_option maxHeartbeats 4000000 in
set_option maxRecDepth 100000 in
theorem c_X4_aboveNotToCheck (l : Launch) (D : va_G) (cs : Nat → ClassId) (a : Nat → Nat) (O : OF) (p1 : Int32) : Met l yX4_aboveNotToCheck (wc yX4_aboveNotToCheck cX4_aboveNotToCheck 2 (some .int)) ({ frames := 3, cells := 0, slots := 0, locals := 66 } : Room) (va_Pc [.ref (a 1), .int p1] (PE D cs (ofW cs a O))) (vp_Si (fun r9 => r9 = (sX4_aboveNotToCheck O p1))) 0 0 (fun _ => False) := by
  obtain ⟨v, hv⟩ : ∃ v, sX4_aboveNotToCheck O p1 = v := ⟨_, rfl⟩
  rw [hv]
  refine met_o (lv := [(0, .ref (a 1)), (1, .int p1)]) (by decide) (Nat.le_of_ble_eq_true rfl) rfl ?_
  intro p e s m args below meth c ls hx hb hr hml hts hown hlocks hin hP hE hl
  have hown : s.vm.findClass RX4 = some m.cls := hown
  have hK := hE.1
  have hP : va_P D vwC (ofW cs a O) s.heap := hP
  unfold sX4_aboveNotToCheck at hv
  refine lv_aload_n hx hb dX4_aboveNotToCheck_0 rfl (lv_at hl 0 rfl) ?_
  refine lv_iload_n hx hb dX4_aboveNotToCheck_1 rfl (lv_at hl 1 rfl) ?_
  refine ro_i (sX4_above O p1) (run_c (va_runV (As := [.int p1]) (rest := []) ⟨hx, hb, hml, hown, hts⟩ (c_X4_above l D cs a O p1) (cwV 1 hts (good_V w_ml_X4_51 w_im_X4_above w_se_X4_above w_in_X4 w_co_X4_above) rfl rfl rfl ⟨rfl, hd_X4_above⟩ ⟨Nat.le_of_ble_eq_true rfl, Nat.le_of_ble_eq_true rfl⟩) (pe_W (C := RX4) (T := TX4) (N := 5) (ci := 4) (q0 := 1) hP hE rfl rfl) rfl rfl hl.1 rfl (lv_room (Nat.le_of_ble_eq_true rfl)) dX4_aboveNotToCheck_2 ⟨Nat.zero_le _, Nat.zero_le _⟩)) ?_
  refine lv_aload_n hx hb dX4_aboveNotToCheck_5 rfl (lv_at hl 0 rfl) ?_
  refine va_get (D := D) (ci := 4) (v := .int (O.1 1)) (C := RX4) (T := TX4) (N := 5) hx hb hts iw_X4 hown hK hP 1 rfl rfl 1 (by decide) (hts _ w_fl_X4_25) (fun _ h9 => h9) rfl dX4_aboveNotToCheck_6 ?_
  refine lv_iconst (v := (-1)) hx hb dX4_aboveNotToCheck_9 (by decide) ?_
  refine lv_ixor hx hb dX4_aboveNotToCheck_10 ?_
  refine lv_iand hx hb dX4_aboveNotToCheck_11 ?_
  refine ro_i (sJ6_bitCount_0f7a4 ((sX4_above O p1) &&& ((O.1 1) ^^^ (-1)))) (run_c (va_runS (As := [.int ((sX4_above O p1) &&& ((O.1 1) ^^^ (-1)))]) (rest := []) ⟨hx, hb, hml, hown, hts⟩ (c_J6_bitCount_0f7a4 l D cs ((sX4_above O p1) &&& ((O.1 1) ^^^ (-1)))) (va_cwS 1 hts (good_T w_ml_X4_45 w_st_J6_bitCount_0f7a4 w_in_J6 w_co_J6_bitCount_0f7a4) rfl rfl rfl hd_J6_bitCount_0f7a4 ⟨Nat.le_of_ble_eq_true rfl, Nat.le_of_ble_eq_true rfl⟩) (pe_S (p_nil D _) hE) rfl rfl hl.1 rfl (lv_room (Nat.le_of_ble_eq_true rfl)) dX4_aboveNotToCheck_12 ⟨Nat.zero_le _, Nat.zero_le _⟩)) ?_
  exact W.iret (v := sJ6_bitCount_0f7a4 ((sX4_above O p1) &&& ((O.1 1) ^^^ (-1)))) hx hb hr (fun t ht hW => ⟨sJ6_bitCount_0f7a4 ((sX4_above O p1) &&& ((O.1 1) ^^^ (-1))), rfl, hv, ht⟩) (fun _ h => nomatch h) dX4_aboveNotToCheck_15 (hlocks := hlocks)
theorem hd_X4_countUnder : yX4_countUnder.cls ≠ "java/lang/invoke/MethodHandle" ∧ yX4_countUnder.cls ≠ "java/lang/invoke/VarHandle" ∧ (parseMethodDescriptor yX4_countUnder.desc).map (fun d => d.parameters.length) = some 1 := by decide +kernel
def LX4_countUnder_4 (O : OF) (p1 : Int32) : Nat → Int32 → Int32 → Int32
  | 0 => fun _ _ => 0
  | n + 1 => fun x2 x3 => (if (O.1 0) ≤ x3 then x2 else (if (sX7_isIn (sX4_above O x3) p1) = true then (LX4_countUnder_4 O p1 n (x2 + 1) (x3 + 1)) else (LX4_countUnder_4 O p1 n x2 (x3 + 1))))
theorem LX4_countUnder_4_eq (O : OF) (p1 : Int32) (n : Nat) (x2 : Int32) (x3 : Int32) : LX4_countUnder_4 O p1 (n + 1) x2 x3 = (if (O.1 0) ≤ x3 then x2 else (if (sX7_isIn (sX4_above O x3) p1) = true then (LX4_countUnder_4 O p1 n (x2 + 1) (x3 + 1)) else (LX4_countUnder_4 O p1 n x2 (x3 + 1)))) := rfl
def sX4_countUnder (O : OF) (p1 : Int32) : Int32 := (LX4_countUnder_4 O p1 (upM (O.1 0) 0 + 1) 0 0)
set_option maxHeartbeats 4000000 in
set_option maxRecDepth 100000 in
theorem c_X4_countUnder (l : Launch) (D : va_G) (cs : Nat → ClassId) (a : Nat → Nat) (O : OF) (p1 : Int32) : Met l yX4_countUnder (wc yX4_countUnder cX4_countUnder 4 (some .int)) ({ frames := 3, cells := 0, slots := 0, locals := 66 } : Room) (va_Pc [.ref (a 1), .int p1] (PE D cs (ofW cs a O))) (vp_Si (fun r9 => r9 = (sX4_countUnder O p1))) 0 0 (fun _ => False) := by
  obtain ⟨v, hv⟩ : ∃ v, sX4_countUnder O p1 = v := ⟨_, rfl⟩
  rw [hv]
  refine met_o (lv := [(0, .ref (a 1)), (1, .int p1)]) (by decide) (Nat.le_of_ble_eq_true rfl) rfl ?_
  intro p e s m args below meth c ls hx hb hr hml hts hown hlocks hin hP hE hl
  have hown : s.vm.findClass RX4 = some m.cls := hown
  have hK := hE.1
  have hP : va_P D vwC (ofW cs a O) s.heap := hP
  unfold sX4_countUnder at hv
  refine lv_iconst (v := 0) hx hb dX4_countUnder_0 (by decide) ?_
  refine lv_istore_n (lv' := [(2, .int 0), (0, .ref (a 1)), (1, .int p1)]) hx hb dX4_countUnder_1 rfl hl (by decide) rfl (fun ls hl => ?_)
  refine lv_iconst (v := 0) hx hb dX4_countUnder_2 (by decide) ?_
  refine lv_istore_n (lv' := [(3, .int 0), (2, .int 0), (0, .ref (a 1)), (1, .int p1)]) hx hb dX4_countUnder_3 rfl hl (by decide) rfl (fun ls hl => ?_)
  have LOOP : ∀ (n : Nat) (x2 : Int32) (x3 : Int32), upM (O.1 0) x3 < n → LX4_countUnder_4 O p1 n x2 x3 = v → ∀ ls : Array Slot, lv_has ls 4 [(0, .ref (a 1)), (1, .int p1), (2, .int x2), (3, .int x3)] → W p l e ({ frames := 3, cells := 0, slots := 0, locals := 66 } : Room) s m args below meth c s.heap [] 0 0 (MQ below (vp_Si (fun r9 => r9 = v)) args s 0 0 (fun _ => False)) (F0 m 4 ls []) := by
    clear hv
    intro n
    induction n with
    | zero => intro x2 x3 hm; exact absurd hm (Nat.not_lt_zero _)
    | succ n ih =>
      intro x2 x3 hm hv ls hl
      have hv := (LX4_countUnder_4_eq O p1 n x2 x3).symm.trans hv
      refine lv_iload_n hx hb dX4_countUnder_4 rfl (lv_at hl 3 rfl) ?_
      refine lv_aload_n hx hb dX4_countUnder_5 rfl (lv_at hl 0 rfl) ?_
      refine va_get (D := D) (ci := 4) (v := .int (O.1 0)) (C := RX4) (T := TX4) (N := 5) hx hb hts iw_X4 hown hK hP 1 rfl rfl 0 (by decide) (hts _ w_fl_X4_21) (fun _ h9 => h9) rfl dX4_countUnder_6 ?_
      refine lv_icmp_ge (tgt := 33) hx hb dX4_countUnder_9 (by decide) (fun c9 => ?_) (fun c9 => ?_)
      · have hv := (if_pos c9).symm.trans hv
        refine lv_iload_n hx hb dX4_countUnder_33 rfl (lv_at hl 2 rfl) ?_
        exact W.iret (v := x2) hx hb hr (fun t ht hW => ⟨x2, rfl, hv, ht⟩) (fun _ h => nomatch h) dX4_countUnder_34 (hlocks := hlocks)
      · have hv := (if_neg c9).symm.trans hv
        refine lv_aload_n hx hb dX4_countUnder_12 rfl (lv_at hl 0 rfl) ?_
        refine lv_iload_n hx hb dX4_countUnder_13 rfl (lv_at hl 3 rfl) ?_
        refine ro_i (sX4_above O x3) (run_c (va_runV (As := [.int x3]) (rest := []) ⟨hx, hb, hml, hown, hts⟩ (c_X4_above l D cs a O x3) (cwV 1 hts (good_V w_ml_X4_51 w_im_X4_above w_se_X4_above w_in_X4 w_co_X4_above) rfl rfl rfl ⟨rfl, hd_X4_above⟩ ⟨Nat.le_of_ble_eq_true rfl, Nat.le_of_ble_eq_true rfl⟩) (pe_W (C := RX4) (T := TX4) (N := 5) (ci := 4) (q0 := 1) hP hE rfl rfl) rfl rfl hl.1 rfl (lv_room (Nat.le_of_ble_eq_true rfl)) dX4_countUnder_14 ⟨Nat.zero_le _, Nat.zero_le _⟩)) ?_
        refine lv_iload_n hx hb dX4_countUnder_17 rfl (lv_at hl 1 rfl) ?_
        refine ro_i (b2i (sX7_isIn (sX4_above O x3) p1)) (run_c (va_runSN (As := [.int (sX4_above O x3), .int p1]) (rest := []) ⟨hx, hb, hml, hown, hts⟩ (c_X7_isIn l D cs (sX4_above O x3) p1) ⟨va_cnB 2 hts (good_code w_co_X7_isIn) rfl rfl rfl (hE.2.1 ("TrueSheets$Sheets", 41, yX7_isIn) (List.mem_of_getElem? (i := 2) rfl)) (hts _ w_in_X7) hd_X7_isIn ⟨Nat.le_of_ble_eq_true rfl, Nat.le_of_ble_eq_true rfl⟩, hts _ w_st_X7_isIn, trivial⟩ (pe_S (p_nil D _) hE) rfl rfl hl.1 rfl (lv_room (Nat.le_of_ble_eq_true rfl)) dX4_countUnder_18 ⟨Nat.zero_le _, Nat.zero_le _⟩)) ?_
        refine lv_if_eq (tgt := 27) hx hb dX4_countUnder_21 (by decide) (fun c21 => ?_) (fun c21 => ?_)
        · have c21 := b2i_f c21
          have hv := (if_neg c21).symm.trans hv
          refine lv_iinc (v := x3 + 1) (lv' := [(3, .int (x3 + 1)), (0, .ref (a 1)), (1, .int p1), (2, .int x2)]) hx hb dX4_countUnder_27 hl (k := 3) rfl rfl (by decide) rfl (fun ls hl => ?_)
          refine lv_goto (tgt := 4) hx hb dX4_countUnder_30 (by decide) ?_
          exact ih x2 (x3 + 1) (upM_s c9 hm) hv ls (lv_sub hl [1, 2, 3, 0] rfl)
        · have c21 := b2i_t c21
          have hv := (if_pos c21).symm.trans hv
          refine lv_iinc (v := x2 + 1) (lv' := [(2, .int (x2 + 1)), (0, .ref (a 1)), (1, .int p1), (3, .int x3)]) hx hb dX4_countUnder_24 hl (k := 2) rfl rfl (by decide) rfl (fun ls hl => ?_)
          refine lv_iinc (v := x3 + 1) (lv' := [(3, .int (x3 + 1)), (2, .int (x2 + 1)), (0, .ref (a 1)), (1, .int p1)]) hx hb dX4_countUnder_27 hl (k := 3) rfl rfl (by decide) rfl (fun ls hl => ?_)
          refine lv_goto (tgt := 4) hx hb dX4_countUnder_30 (by decide) ?_
          exact ih (x2 + 1) (x3 + 1) (upM_s c9 hm) hv ls (lv_sub hl [2, 3, 1, 0] rfl)
  exact LOOP _ 0 0 (Nat.lt_succ_self _) hv ls (lv_sub hl [2, 3, 1, 0] rfl)
theorem hd_X4_heightOf : yX4_heightOf.cls ≠ "java/lang/invoke/MethodHandle" ∧ yX4_heightOf.cls ≠ "java/lang/invoke/VarHandle" ∧ (parseMethodDescriptor yX4_heightOf.desc).map (fun d => d.parameters.length) = some 1 := by decide +kernel
def LX4_heightOf_14 (O : OF) (p1 : Int32) : Nat → Int32 → Int32 → Int32
  | 0 => fun _ _ => 0
  | n + 1 => fun x3 x4 => (if (O.1 0) ≤ x4 then x3 else (if (sX7_isIn (sX4_above O x4) p1) = true then (LX4_heightOf_14 O p1 n (if x3 < (((sJ6_bitCount_0f7a4 (sX4_above O x4)) - (sJ6_bitCount_0f7a4 (sX4_above O p1))) + 1) then (((sJ6_bitCount_0f7a4 (sX4_above O x4)) - (sJ6_bitCount_0f7a4 (sX4_above O p1))) + 1) else x3) (x4 + 1)) else (LX4_heightOf_14 O p1 n x3 (x4 + 1))))
theorem LX4_heightOf_14_eq (O : OF) (p1 : Int32) (n : Nat) (x3 : Int32) (x4 : Int32) : LX4_heightOf_14 O p1 (n + 1) x3 x4 = (if (O.1 0) ≤ x4 then x3 else (if (sX7_isIn (sX4_above O x4) p1) = true then (LX4_heightOf_14 O p1 n (if x3 < (((sJ6_bitCount_0f7a4 (sX4_above O x4)) - (sJ6_bitCount_0f7a4 (sX4_above O p1))) + 1) then (((sJ6_bitCount_0f7a4 (sX4_above O x4)) - (sJ6_bitCount_0f7a4 (sX4_above O p1))) + 1) else x3) (x4 + 1)) else (LX4_heightOf_14 O p1 n x3 (x4 + 1)))) := rfl
def sX4_heightOf (O : OF) (p1 : Int32) : Int32 := (LX4_heightOf_14 O p1 (upM (O.1 0) 0 + 1) 1 0)
set_option maxHeartbeats 4000000 in
set_option maxRecDepth 100000 in
theorem c_X4_heightOf (l : Launch) (D : va_G) (cs : Nat → ClassId) (a : Nat → Nat) (O : OF) (p1 : Int32) : Met l yX4_heightOf (wc yX4_heightOf cX4_heightOf 6 (some .int)) ({ frames := 3, cells := 0, slots := 0, locals := 66 } : Room) (va_Pc [.ref (a 1), .int p1] (PE D cs (ofW cs a O))) (vp_Si (fun r9 => r9 = (sX4_heightOf O p1))) 0 0 (fun _ => False) := by
  obtain ⟨v, hv⟩ : ∃ v, sX4_heightOf O p1 = v := ⟨_, rfl⟩
  rw [hv]
  refine met_o (lv := [(0, .ref (a 1)), (1, .int p1)]) (by decide) (Nat.le_of_ble_eq_true rfl) rfl ?_
  intro p e s m args below meth c ls hx hb hr hml hts hown hlocks hin hP hE hl
  have hown : s.vm.findClass RX4 = some m.cls := hown
  have hK := hE.1
  have hP : va_P D vwC (ofW cs a O) s.heap := hP
  unfold sX4_heightOf at hv
  refine lv_aload_n hx hb dX4_heightOf_0 rfl (lv_at hl 0 rfl) ?_
  refine lv_iload_n hx hb dX4_heightOf_1 rfl (lv_at hl 1 rfl) ?_
  refine ro_i (sX4_above O p1) (run_c (va_runV (As := [.int p1]) (rest := []) ⟨hx, hb, hml, hown, hts⟩ (c_X4_above l D cs a O p1) (cwV 1 hts (good_V w_ml_X4_51 w_im_X4_above w_se_X4_above w_in_X4 w_co_X4_above) rfl rfl rfl ⟨rfl, hd_X4_above⟩ ⟨Nat.le_of_ble_eq_true rfl, Nat.le_of_ble_eq_true rfl⟩) (pe_W (C := RX4) (T := TX4) (N := 5) (ci := 4) (q0 := 1) hP hE rfl rfl) rfl rfl hl.1 rfl (lv_room (Nat.le_of_ble_eq_true rfl)) dX4_heightOf_2 ⟨Nat.zero_le _, Nat.zero_le _⟩)) ?_
  refine ro_i (sJ6_bitCount_0f7a4 (sX4_above O p1)) (run_c (va_runS (As := [.int (sX4_above O p1)]) (rest := []) ⟨hx, hb, hml, hown, hts⟩ (c_J6_bitCount_0f7a4 l D cs (sX4_above O p1)) (va_cwS 1 hts (good_T w_ml_X4_45 w_st_J6_bitCount_0f7a4 w_in_J6 w_co_J6_bitCount_0f7a4) rfl rfl rfl hd_J6_bitCount_0f7a4 ⟨Nat.le_of_ble_eq_true rfl, Nat.le_of_ble_eq_true rfl⟩) (pe_S (p_nil D _) hE) rfl rfl hl.1 rfl (lv_room (Nat.le_of_ble_eq_true rfl)) dX4_heightOf_5 ⟨Nat.zero_le _, Nat.zero_le _⟩)) ?_
  refine lv_istore_n (lv' := [(2, .int (sJ6_bitCount_0f7a4 (sX4_above O p1))), (0, .ref (a 1)), (1, .int p1)]) hx hb dX4_heightOf_8 rfl hl (by decide) rfl (fun ls hl => ?_)
  refine lv_iconst (v := 1) hx hb dX4_heightOf_9 (by decide) ?_
  refine lv_istore_n (lv' := [(3, .int 1), (2, .int (sJ6_bitCount_0f7a4 (sX4_above O p1))), (0, .ref (a 1)), (1, .int p1)]) hx hb dX4_heightOf_10 rfl hl (by decide) rfl (fun ls hl => ?_)
  refine lv_iconst (v := 0) hx hb dX4_heightOf_11 (by decide) ?_
  refine lv_istore (lv' := [(4, .int 0), (3, .int 1), (2, .int (sJ6_bitCount_0f7a4 (sX4_above O p1))), (0, .ref (a 1)), (1, .int p1)]) hx hb dX4_heightOf_12 hl (by decide) rfl (fun ls hl => ?_)
  have LOOP : ∀ (n : Nat) (x3 : Int32) (x4 : Int32), upM (O.1 0) x4 < n → LX4_heightOf_14 O p1 n x3 x4 = v → ∀ ls : Array Slot, lv_has ls 6 [(0, .ref (a 1)), (1, .int p1), (2, .int (sJ6_bitCount_0f7a4 (sX4_above O p1))), (3, .int x3), (4, .int x4)] → W p l e ({ frames := 3, cells := 0, slots := 0, locals := 66 } : Room) s m args below meth c s.heap [] 0 0 (MQ below (vp_Si (fun r9 => r9 = v)) args s 0 0 (fun _ => False)) (F0 m 14 ls []) := by
    clear hv
    intro n
    induction n with
    | zero => intro x3 x4 hm; exact absurd hm (Nat.not_lt_zero _)
    | succ n ih =>
      intro x3 x4 hm hv ls hl
      have hv := (LX4_heightOf_14_eq O p1 n x3 x4).symm.trans hv
      refine lv_iload hx hb dX4_heightOf_14 (lv_at hl 4 rfl) ?_
      refine lv_aload_n hx hb dX4_heightOf_16 rfl (lv_at hl 0 rfl) ?_
      refine va_get (D := D) (ci := 4) (v := .int (O.1 0)) (C := RX4) (T := TX4) (N := 5) hx hb hts iw_X4 hown hK hP 1 rfl rfl 0 (by decide) (hts _ w_fl_X4_21) (fun _ h9 => h9) rfl dX4_heightOf_17 ?_
      refine lv_icmp_ge (tgt := 60) hx hb dX4_heightOf_20 (by decide) (fun c20 => ?_) (fun c20 => ?_)
      · have hv := (if_pos c20).symm.trans hv
        refine lv_iload_n hx hb dX4_heightOf_60 rfl (lv_at hl 3 rfl) ?_
        exact W.iret (v := x3) hx hb hr (fun t ht hW => ⟨x3, rfl, hv, ht⟩) (fun _ h => nomatch h) dX4_heightOf_61 (hlocks := hlocks)
      · have hv := (if_neg c20).symm.trans hv
        refine lv_aload_n hx hb dX4_heightOf_23 rfl (lv_at hl 0 rfl) ?_
        refine lv_iload hx hb dX4_heightOf_24 (lv_at hl 4 rfl) ?_
        refine ro_i (sX4_above O x4) (run_c (va_runV (As := [.int x4]) (rest := []) ⟨hx, hb, hml, hown, hts⟩ (c_X4_above l D cs a O x4) (cwV 1 hts (good_V w_ml_X4_51 w_im_X4_above w_se_X4_above w_in_X4 w_co_X4_above) rfl rfl rfl ⟨rfl, hd_X4_above⟩ ⟨Nat.le_of_ble_eq_true rfl, Nat.le_of_ble_eq_true rfl⟩) (pe_W (C := RX4) (T := TX4) (N := 5) (ci := 4) (q0 := 1) hP hE rfl rfl) rfl rfl hl.1 rfl (lv_room (Nat.le_of_ble_eq_true rfl)) dX4_heightOf_26 ⟨Nat.zero_le _, Nat.zero_le _⟩)) ?_
        refine lv_istore (lv' := [(5, .int (sX4_above O x4)), (0, .ref (a 1)), (1, .int p1), (2, .int (sJ6_bitCount_0f7a4 (sX4_above O p1))), (3, .int x3), (4, .int x4)]) hx hb dX4_heightOf_29 hl (by decide) rfl (fun ls hl => ?_)
        refine lv_iload hx hb dX4_heightOf_31 (lv_at hl 0 rfl) ?_
        refine lv_iload_n hx hb dX4_heightOf_33 rfl (lv_at hl 2 rfl) ?_
        refine ro_i (b2i (sX7_isIn (sX4_above O x4) p1)) (run_c (va_runSN (As := [.int (sX4_above O x4), .int p1]) (rest := []) ⟨hx, hb, hml, hown, hts⟩ (c_X7_isIn l D cs (sX4_above O x4) p1) ⟨va_cnB 2 hts (good_code w_co_X7_isIn) rfl rfl rfl (hE.2.1 ("TrueSheets$Sheets", 41, yX7_isIn) (List.mem_of_getElem? (i := 2) rfl)) (hts _ w_in_X7) hd_X7_isIn ⟨Nat.le_of_ble_eq_true rfl, Nat.le_of_ble_eq_true rfl⟩, hts _ w_st_X7_isIn, trivial⟩ (pe_S (p_nil D _) hE) rfl rfl hl.1 rfl (lv_room (Nat.le_of_ble_eq_true rfl)) dX4_heightOf_34 ⟨Nat.zero_le _, Nat.zero_le _⟩)) ?_
        refine lv_if_eq (tgt := 54) hx hb dX4_heightOf_37 (by decide) (fun c37 => ?_) (fun c37 => ?_)
        · have c37 := b2i_f c37
          have hv := (if_neg c37).symm.trans hv
          refine lv_iinc (v := x4 + 1) (lv' := [(4, .int (x4 + 1)), (5, .int (sX4_above O x4)), (0, .ref (a 1)), (1, .int p1), (2, .int (sJ6_bitCount_0f7a4 (sX4_above O p1))), (3, .int x3)]) hx hb dX4_heightOf_54 hl (k := 5) rfl rfl (by decide) rfl (fun ls hl => ?_)
          refine lv_goto (tgt := 14) hx hb dX4_heightOf_57 (by decide) ?_
          exact ih x3 (x4 + 1) (upM_s c20 hm) hv ls (lv_sub hl [2, 3, 4, 5, 0] rfl)
        · have c37 := b2i_t c37
          have hv := (if_pos c37).symm.trans hv
          refine lv_iload_n hx hb dX4_heightOf_40 rfl (lv_at hl 4 rfl) ?_
          refine lv_iload hx hb dX4_heightOf_41 (lv_at hl 0 rfl) ?_
          refine ro_i (sJ6_bitCount_0f7a4 (sX4_above O x4)) (run_c (va_runS (As := [.int (sX4_above O x4)]) (rest := [.int x3]) ⟨hx, hb, hml, hown, hts⟩ (c_J6_bitCount_0f7a4 l D cs (sX4_above O x4)) (va_cwS 1 hts (good_T w_ml_X4_45 w_st_J6_bitCount_0f7a4 w_in_J6 w_co_J6_bitCount_0f7a4) rfl rfl rfl hd_J6_bitCount_0f7a4 ⟨Nat.le_of_ble_eq_true rfl, Nat.le_of_ble_eq_true rfl⟩) (pe_S (p_nil D _) hE) rfl rfl hl.1 rfl (lv_room (Nat.le_of_ble_eq_true rfl)) dX4_heightOf_43 ⟨Nat.zero_le _, Nat.zero_le _⟩)) ?_
          refine lv_iload_n hx hb dX4_heightOf_46 rfl (lv_at hl 3 rfl) ?_
          refine lv_isub hx hb dX4_heightOf_47 ?_
          refine lv_iconst (v := 1) hx hb dX4_heightOf_48 (by decide) ?_
          refine lv_iadd hx hb dX4_heightOf_49 ?_
          refine va_mmax hx hb (by rw [hml, hl.1]) hown (hts _ w_ml_X4_65) (hts _ w_st_J9_max_7cf53) (hts _ w_in_J9) (hts _ w_co_J9_max_7cf53) (Nat.le_of_ble_eq_true rfl) (Nat.le_of_ble_eq_true rfl) (Nat.zero_le _) (Nat.zero_le _) dX4_heightOf_50 ?_
          refine lv_istore_n (lv' := [(3, .int (if x3 < (((sJ6_bitCount_0f7a4 (sX4_above O x4)) - (sJ6_bitCount_0f7a4 (sX4_above O p1))) + 1) then (((sJ6_bitCount_0f7a4 (sX4_above O x4)) - (sJ6_bitCount_0f7a4 (sX4_above O p1))) + 1) else x3)), (5, .int (sX4_above O x4)), (0, .ref (a 1)), (1, .int p1), (2, .int (sJ6_bitCount_0f7a4 (sX4_above O p1))), (4, .int x4)]) hx hb dX4_heightOf_53 rfl hl (by decide) rfl (fun ls hl => ?_)
          refine lv_iinc (v := x4 + 1) (lv' := [(4, .int (x4 + 1)), (3, .int (if x3 < (((sJ6_bitCount_0f7a4 (sX4_above O x4)) - (sJ6_bitCount_0f7a4 (sX4_above O p1))) + 1) then (((sJ6_bitCount_0f7a4 (sX4_above O x4)) - (sJ6_bitCount_0f7a4 (sX4_above O p1))) + 1) else x3)), (5, .int (sX4_above O x4)), (0, .ref (a 1)), (1, .int p1), (2, .int (sJ6_bitCount_0f7a4 (sX4_above O p1)))]) hx hb dX4_heightOf_54 hl (k := 5) rfl rfl (by decide) rfl (fun ls hl => ?_)
          refine lv_goto (tgt := 14) hx hb dX4_heightOf_57 (by decide) ?_
          exact ih (if x3 < (((sJ6_bitCount_0f7a4 (sX4_above O x4)) - (sJ6_bitCount_0f7a4 (sX4_above O p1))) + 1) then (((sJ6_bitCount_0f7a4 (sX4_above O x4)) - (sJ6_bitCount_0f7a4 (sX4_above O p1))) + 1) else x3) (x4 + 1) (upM_s c20 hm) hv ls (lv_sub hl [3, 4, 5, 1, 0] rfl)
  exact LOOP _ 1 0 (Nat.lt_succ_self _) hv ls (lv_sub hl [3, 4, 2, 1, 0] rfl)
theorem hd_X4_lowestOverBoth : yX4_lowestOverBoth.cls ≠ "java/lang/invoke/MethodHandle" ∧ yX4_lowestOverBoth.cls ≠ "java/lang/invoke/VarHandle" ∧ (parseMethodDescriptor yX4_lowestOverBoth.desc).map (fun d => d.parameters.length) = some 2 := by decide +kernel
def LX4_lowestOverBoth_24 (O : OF) (p1 : Int32) (p2 : Int32) : Nat → Int32 → Int32
  | 0 => fun _ => 0
  | n + 1 => fun x4 => (if x4 < 0 then (-1) else (if (sX7_isIn (((sX4_above O p1) ||| (1 <<< (p1 &&& 31))) &&& ((sX4_above O p2) ||| (1 <<< (p2 &&& 31)))) x4) = true then x4 else (LX4_lowestOverBoth_24 O p1 p2 n (x4 + (-1)))))
theorem LX4_lowestOverBoth_24_eq (O : OF) (p1 : Int32) (p2 : Int32) (n : Nat) (x4 : Int32) : LX4_lowestOverBoth_24 O p1 p2 (n + 1) x4 = (if x4 < 0 then (-1) else (if (sX7_isIn (((sX4_above O p1) ||| (1 <<< (p1 &&& 31))) &&& ((sX4_above O p2) ||| (1 <<< (p2 &&& 31)))) x4) = true then x4 else (LX4_lowestOverBoth_24 O p1 p2 n (x4 + (-1))))) := rfl
def sX4_lowestOverBoth (O : OF) (p1 : Int32) (p2 : Int32) : Int32 := (LX4_lowestOverBoth_24 O p1 p2 (dnM 9 + 1) 9)
set_option maxHeartbeats 4000000 in
set_option maxRecDepth 100000 in
theorem c_X4_lowestOverBoth (l : Launch) (D : va_G) (cs : Nat → ClassId) (a : Nat → Nat) (O : OF) (p1 : Int32) (p2 : Int32) : Met l yX4_lowestOverBoth (wc yX4_lowestOverBoth cX4_lowestOverBoth 5 (some .int)) ({ frames := 3, cells := 0, slots := 0, locals := 66 } : Room) (va_Pc [.ref (a 1), .int p1, .int p2] (PE D cs (ofW cs a O))) (vp_Si (fun r9 => r9 = (sX4_lowestOverBoth O p1 p2))) 0 0 (fun _ => False) := by
  obtain ⟨v, hv⟩ : ∃ v, sX4_lowestOverBoth O p1 p2 = v := ⟨_, rfl⟩
  rw [hv]
  refine met_o (lv := [(0, .ref (a 1)), (1, .int p1), (2, .int p2)]) (by decide) (Nat.le_of_ble_eq_true rfl) rfl ?_
  intro p e s m args below meth c ls hx hb hr hml hts hown hlocks hin hP hE hl
  have hown : s.vm.findClass RX4 = some m.cls := hown
  have hK := hE.1
  have hP : va_P D vwC (ofW cs a O) s.heap := hP
  unfold sX4_lowestOverBoth at hv
  refine lv_aload_n hx hb dX4_lowestOverBoth_0 rfl (lv_at hl 0 rfl) ?_
  refine lv_iload_n hx hb dX4_lowestOverBoth_1 rfl (lv_at hl 1 rfl) ?_
  refine ro_i (sX4_above O p1) (run_c (va_runV (As := [.int p1]) (rest := []) ⟨hx, hb, hml, hown, hts⟩ (c_X4_above l D cs a O p1) (cwV 1 hts (good_V w_ml_X4_51 w_im_X4_above w_se_X4_above w_in_X4 w_co_X4_above) rfl rfl rfl ⟨rfl, hd_X4_above⟩ ⟨Nat.le_of_ble_eq_true rfl, Nat.le_of_ble_eq_true rfl⟩) (pe_W (C := RX4) (T := TX4) (N := 5) (ci := 4) (q0 := 1) hP hE rfl rfl) rfl rfl hl.1 rfl (lv_room (Nat.le_of_ble_eq_true rfl)) dX4_lowestOverBoth_2 ⟨Nat.zero_le _, Nat.zero_le _⟩)) ?_
  refine lv_iconst (v := 1) hx hb dX4_lowestOverBoth_5 (by decide) ?_
  refine lv_iload_n hx hb dX4_lowestOverBoth_6 rfl (lv_at hl 1 rfl) ?_
  refine lv_ishl hx hb dX4_lowestOverBoth_7 ?_
  refine lv_ior hx hb dX4_lowestOverBoth_8 ?_
  refine lv_aload_n hx hb dX4_lowestOverBoth_9 rfl (lv_at hl 0 rfl) ?_
  refine lv_iload_n hx hb dX4_lowestOverBoth_10 rfl (lv_at hl 2 rfl) ?_
  refine ro_i (sX4_above O p2) (run_c (va_runV (As := [.int p2]) (rest := [.int ((sX4_above O p1) ||| (1 <<< (p1 &&& 31)))]) ⟨hx, hb, hml, hown, hts⟩ (c_X4_above l D cs a O p2) (cwV 1 hts (good_V w_ml_X4_51 w_im_X4_above w_se_X4_above w_in_X4 w_co_X4_above) rfl rfl rfl ⟨rfl, hd_X4_above⟩ ⟨Nat.le_of_ble_eq_true rfl, Nat.le_of_ble_eq_true rfl⟩) (pe_W (C := RX4) (T := TX4) (N := 5) (ci := 4) (q0 := 1) hP hE rfl rfl) rfl rfl hl.1 rfl (lv_room (Nat.le_of_ble_eq_true rfl)) dX4_lowestOverBoth_11 ⟨Nat.zero_le _, Nat.zero_le _⟩)) ?_
  refine lv_iconst (v := 1) hx hb dX4_lowestOverBoth_14 (by decide) ?_
  refine lv_iload_n hx hb dX4_lowestOverBoth_15 rfl (lv_at hl 2 rfl) ?_
  refine lv_ishl hx hb dX4_lowestOverBoth_16 ?_
  refine lv_ior hx hb dX4_lowestOverBoth_17 ?_
  refine lv_iand hx hb dX4_lowestOverBoth_18 ?_
  refine lv_istore_n (lv' := [(3, .int (((sX4_above O p1) ||| (1 <<< (p1 &&& 31))) &&& ((sX4_above O p2) ||| (1 <<< (p2 &&& 31))))), (0, .ref (a 1)), (1, .int p1), (2, .int p2)]) hx hb dX4_lowestOverBoth_19 rfl hl (by decide) rfl (fun ls hl => ?_)
  refine lv_bipush (v := 9) hx hb dX4_lowestOverBoth_20 (by decide) ?_
  refine lv_istore (lv' := [(4, .int 9), (3, .int (((sX4_above O p1) ||| (1 <<< (p1 &&& 31))) &&& ((sX4_above O p2) ||| (1 <<< (p2 &&& 31))))), (0, .ref (a 1)), (1, .int p1), (2, .int p2)]) hx hb dX4_lowestOverBoth_22 hl (by decide) rfl (fun ls hl => ?_)
  have LOOP : ∀ (n : Nat) (x4 : Int32), dnM x4 < n → LX4_lowestOverBoth_24 O p1 p2 n x4 = v → ∀ ls : Array Slot, lv_has ls 5 [(0, .ref (a 1)), (1, .int p1), (2, .int p2), (3, .int (((sX4_above O p1) ||| (1 <<< (p1 &&& 31))) &&& ((sX4_above O p2) ||| (1 <<< (p2 &&& 31))))), (4, .int x4)] → W p l e ({ frames := 3, cells := 0, slots := 0, locals := 66 } : Room) s m args below meth c s.heap [] 0 0 (MQ below (vp_Si (fun r9 => r9 = v)) args s 0 0 (fun _ => False)) (F0 m 24 ls []) := by
    clear hv
    intro n
    induction n with
    | zero => intro x4 hm; exact absurd hm (Nat.not_lt_zero _)
    | succ n ih =>
      intro x4 hm hv ls hl
      have hv := (LX4_lowestOverBoth_24_eq O p1 p2 n x4).symm.trans hv
      refine lv_iload hx hb dX4_lowestOverBoth_24 (lv_at hl 4 rfl) ?_
      refine lv_if_lt (tgt := 47) hx hb dX4_lowestOverBoth_26 (by decide) (fun c26 => ?_) (fun c26 => ?_)
      · have hv := (if_pos c26).symm.trans hv
        refine lv_iconst (v := (-1)) hx hb dX4_lowestOverBoth_47 (by decide) ?_
        exact W.iret (v := (-1)) hx hb hr (fun t ht hW => ⟨(-1), rfl, hv, ht⟩) (fun _ h => nomatch h) dX4_lowestOverBoth_48 (hlocks := hlocks)
      · have hv := (if_neg c26).symm.trans hv
        refine lv_iload_n hx hb dX4_lowestOverBoth_29 rfl (lv_at hl 3 rfl) ?_
        refine lv_iload hx hb dX4_lowestOverBoth_30 (lv_at hl 4 rfl) ?_
        refine ro_i (b2i (sX7_isIn (((sX4_above O p1) ||| (1 <<< (p1 &&& 31))) &&& ((sX4_above O p2) ||| (1 <<< (p2 &&& 31)))) x4)) (run_c (va_runSN (As := [.int (((sX4_above O p1) ||| (1 <<< (p1 &&& 31))) &&& ((sX4_above O p2) ||| (1 <<< (p2 &&& 31)))), .int x4]) (rest := []) ⟨hx, hb, hml, hown, hts⟩ (c_X7_isIn l D cs (((sX4_above O p1) ||| (1 <<< (p1 &&& 31))) &&& ((sX4_above O p2) ||| (1 <<< (p2 &&& 31)))) x4) ⟨va_cnB 2 hts (good_code w_co_X7_isIn) rfl rfl rfl (hE.2.1 ("TrueSheets$Sheets", 41, yX7_isIn) (List.mem_of_getElem? (i := 2) rfl)) (hts _ w_in_X7) hd_X7_isIn ⟨Nat.le_of_ble_eq_true rfl, Nat.le_of_ble_eq_true rfl⟩, hts _ w_st_X7_isIn, trivial⟩ (pe_S (p_nil D _) hE) rfl rfl hl.1 rfl (lv_room (Nat.le_of_ble_eq_true rfl)) dX4_lowestOverBoth_32 ⟨Nat.zero_le _, Nat.zero_le _⟩)) ?_
        refine lv_if_eq (tgt := 41) hx hb dX4_lowestOverBoth_35 (by decide) (fun c35 => ?_) (fun c35 => ?_)
        · have c35 := b2i_f c35
          have hv := (if_neg c35).symm.trans hv
          refine lv_iinc (v := x4 + (-1)) (lv' := [(4, .int (x4 + (-1))), (0, .ref (a 1)), (1, .int p1), (2, .int p2), (3, .int (((sX4_above O p1) ||| (1 <<< (p1 &&& 31))) &&& ((sX4_above O p2) ||| (1 <<< (p2 &&& 31)))))]) hx hb dX4_lowestOverBoth_41 hl (k := 4) rfl rfl (by decide) rfl (fun ls hl => ?_)
          refine lv_goto (tgt := 24) hx hb dX4_lowestOverBoth_44 (by decide) ?_
          exact ih (x4 + (-1)) (dnM_s c26 hm) hv ls (lv_sub hl [1, 2, 3, 4, 0] rfl)
        · have c35 := b2i_t c35
          have hv := (if_pos c35).symm.trans hv
          refine lv_iload hx hb dX4_lowestOverBoth_38 (lv_at hl 4 rfl) ?_
          exact W.iret (v := x4) hx hb hr (fun t ht hW => ⟨x4, rfl, hv, ht⟩) (fun _ h => nomatch h) dX4_lowestOverBoth_40 (hlocks := hlocks)
  exact LOOP _ 9 (Nat.lt_succ_self _) hv ls (lv_sub hl [2, 3, 4, 1, 0] rfl)
