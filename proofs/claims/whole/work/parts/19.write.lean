theorem hd_X3_recallAllOf : yX3_recallAllOf.cls ≠ "java/lang/invoke/MethodHandle" ∧ yX3_recallAllOf.cls ≠ "java/lang/invoke/VarHandle" ∧ (parseMethodDescriptor yX3_recallAllOf.desc).map (fun d => d.parameters.length) = some 2 := by decide +kernel
def LX3_recallAllOf_2 (O : OF) (p1 : Int32) (p2 : Int32) : Nat → Int32 → OF → OF
  | 0 => fun _ _ => O
  | n + 1 => fun x3 O9 => (if (O9.1 2) ≤ x3 then O9 else (if 24 ≤ x3 then O9 else (if (sX3_isOutNotRecalled O9 x3) = true then (if (sX3_sheetOf O9 x3) = p1 then (LX3_recallAllOf_2 O p1 p2 n (x3 + 1) (stA O9 13 (upd (O9.2 13) x3.toNatClampNeg p2))) else (LX3_recallAllOf_2 O p1 p2 n (x3 + 1) O9)) else (LX3_recallAllOf_2 O p1 p2 n (x3 + 1) O9))))
theorem LX3_recallAllOf_2_eq (O : OF) (p1 : Int32) (p2 : Int32) (n : Nat) (x3 : Int32) (O9 : OF) : LX3_recallAllOf_2 O p1 p2 (n + 1) x3 O9 = (if (O9.1 2) ≤ x3 then O9 else (if 24 ≤ x3 then O9 else (if (sX3_isOutNotRecalled O9 x3) = true then (if (sX3_sheetOf O9 x3) = p1 then (LX3_recallAllOf_2 O p1 p2 n (x3 + 1) (stA O9 13 (upd (O9.2 13) x3.toNatClampNeg p2))) else (LX3_recallAllOf_2 O p1 p2 n (x3 + 1) O9)) else (LX3_recallAllOf_2 O p1 p2 n (x3 + 1) O9)))) := rfl
def sX3_recallAllOf (O : OF) (p1 : Int32) (p2 : Int32) : OF := (LX3_recallAllOf_2 O p1 p2 (upM (O.1 2) 0 + 1) 0 O)
set_option maxHeartbeats 4000000 in
set_option maxRecDepth 100000 in
theorem c_X3_recallAllOf (l : Launch) (D : va_G) (cs : Nat → ClassId) (a : Nat → Nat) (O : OF) (p1 : Int32) (p2 : Int32) (hd : oD a) : Met l yX3_recallAllOf (wc yX3_recallAllOf cX3_recallAllOf 4 none) ({ frames := 3, cells := 0, slots := 0, locals := 63 } : Room) (va_Pc [.ref (a 2), .int p1, .int p2] (PE D cs (ofW cs a O))) (va_Qv (fun u : OF => u = (sX3_recallAllOf O p1 p2)) (fun u t => va_P D vwC (ofW cs a u) t.heap) (oA a)) 0 0 (oA a) := by
  obtain ⟨v, hv⟩ : ∃ v, sX3_recallAllOf O p1 p2 = v := ⟨_, rfl⟩
  rw [hv]
  refine met_o (lv := [(0, .ref (a 2)), (1, .int p1), (2, .int p2)]) (by decide) (Nat.le_of_ble_eq_true rfl) rfl ?_
  intro p e s m args below meth c ls hx hb hr hml hts hown hlocks hin hP hE hl
  have hown : s.vm.findClass RX3 = some m.cls := hown
  have hK := hE.1
  have hP : va_P D vwC (ofW cs a O) s.heap := hP
  have hS : va_S (oA a) s.heap s.heap [] := va_S.rf
  unfold sX3_recallAllOf at hv
  refine lv_iconst (v := 0) hx hb dX3_recallAllOf_0 (by decide) ?_
  refine lv_istore_n (lv' := [(3, .int 0), (0, .ref (a 2)), (1, .int p1), (2, .int p2)]) hx hb dX3_recallAllOf_1 rfl hl (by decide) rfl (fun ls hl => ?_)
  have LOOP : ∀ (n : Nat) (x3 : Int32) (O9 : OF), upM (O9.1 2) x3 < n → (¬ x3 < 0) → LX3_recallAllOf_2 O p1 p2 n x3 O9 = v → ∀ (H : Heap) (locs : List Loc), va_P D vwC (ofW cs a O9) H → va_S (oA a) s.heap H locs → ∀ ls : Array Slot, lv_has ls 4 [(0, .ref (a 2)), (1, .int p1), (2, .int p2), (3, .int x3)] → W p l e ({ frames := 3, cells := 0, slots := 0, locals := 63 } : Room) s m args below meth c H locs 0 0 (MQ below (va_Qv (fun u : OF => u = v) (fun u t => va_P D vwC (ofW cs a u) t.heap) (oA a)) args s 0 0 (oA a)) (F0 m 2 ls []) := by
    clear hv
    intro n
    induction n with
    | zero => intro x3 O9 hm; exact absurd hm (Nat.not_lt_zero _)
    | succ n ih =>
      intro x3 O9 hm i0 hv H locs hP hS ls hl
      have hv := (LX3_recallAllOf_2_eq O p1 p2 n x3 O9).symm.trans hv
      refine lv_iload_n hx hb dX3_recallAllOf_2 rfl (lv_at hl 3 rfl) ?_
      refine lv_aload_n hx hb dX3_recallAllOf_3 rfl (lv_at hl 0 rfl) ?_
      refine va_get (D := D) (ci := 3) (v := .int (O9.1 2)) (C := RX3) (T := TX3) (N := 8) hx hb hts iw_X3 hown hK hP 2 rfl rfl 0 (by decide) (hts _ w_fl_X3_30) (fun _ h9 => h9) rfl dX3_recallAllOf_4 ?_
      refine lv_icmp_ge (tgt := 46) hx hb dX3_recallAllOf_7 (by decide) (fun c7 => ?_) (fun c7 => ?_)
      · have hv := (if_pos c7).symm.trans hv
        exact W.vret hx hb hr (fun t ht hW => ⟨⟨O9, rfl, hv, pw ht hP⟩, hS.F ht⟩) hS.2.2 dX3_recallAllOf_46 (hlocks := hlocks)
      · have hv := (if_neg c7).symm.trans hv
        refine lv_iload_n hx hb dX3_recallAllOf_10 rfl (lv_at hl 3 rfl) ?_
        refine lv_bipush (v := 24) hx hb dX3_recallAllOf_11 (by decide) ?_
        refine lv_icmp_ge (tgt := 46) hx hb dX3_recallAllOf_13 (by decide) (fun c13 => ?_) (fun c13 => ?_)
        · have hv := (if_pos c13).symm.trans hv
          exact W.vret hx hb hr (fun t ht hW => ⟨⟨O9, rfl, hv, pw ht hP⟩, hS.F ht⟩) hS.2.2 dX3_recallAllOf_46 (hlocks := hlocks)
        · have hv := (if_neg c13).symm.trans hv
          refine lv_aload_n hx hb dX3_recallAllOf_16 rfl (lv_at hl 0 rfl) ?_
          refine lv_iload_n hx hb dX3_recallAllOf_17 rfl (lv_at hl 3 rfl) ?_
          refine ro_i (b2i (sX3_isOutNotRecalled O9 x3)) (run_c (va_runV (As := [.int x3]) (rest := []) ⟨hx, hb, hml, hown, hts⟩ (c_X3_isOutNotRecalled l D cs a O9 x3) (cwV 1 hts (good_V w_ml_X3_81 w_im_X3_isOutNotRecalled w_se_X3_isOutNotRecalled w_in_X3 w_co_X3_isOutNotRecalled) rfl rfl rfl ⟨rfl, hd_X3_isOutNotRecalled⟩ ⟨Nat.le_of_ble_eq_true rfl, Nat.le_of_ble_eq_true rfl⟩) (pe_W (C := RX3) (T := TX3) (N := 8) (ci := 3) (q0 := 2) hP hE rfl rfl) rfl rfl hl.1 rfl (lv_room (Nat.le_of_ble_eq_true rfl)) dX3_recallAllOf_18 ⟨Nat.zero_le _, Nat.zero_le _⟩)) ?_
          refine lv_if_eq (tgt := 40) hx hb dX3_recallAllOf_21 (by decide) (fun c21 => ?_) (fun c21 => ?_)
          · have c21 := b2i_f c21
            have hv := (if_neg c21).symm.trans hv
            refine lv_iinc (v := x3 + 1) (lv' := [(3, .int (x3 + 1)), (0, .ref (a 2)), (1, .int p1), (2, .int p2)]) hx hb dX3_recallAllOf_40 hl (k := 3) rfl rfl (by decide) rfl (fun ls hl => ?_)
            refine lv_goto (tgt := 2) hx hb dX3_recallAllOf_43 (by decide) ?_
            exact ih (x3 + 1) O9 (upM_s c7 hm) (nn_inc i0 c7) hv _ _ hP hS ls (lv_sub hl [1, 2, 3, 0] rfl)
          · have c21 := b2i_t c21
            have hv := (if_pos c21).symm.trans hv
            refine lv_aload_n hx hb dX3_recallAllOf_24 rfl (lv_at hl 0 rfl) ?_
            refine lv_iload_n hx hb dX3_recallAllOf_25 rfl (lv_at hl 3 rfl) ?_
            refine ro_i (sX3_sheetOf O9 x3) (run_c (va_runV (As := [.int x3]) (rest := []) ⟨hx, hb, hml, hown, hts⟩ (c_X3_sheetOf l D cs a O9 x3) (cwV 1 hts (good_V w_ml_X3_72 w_im_X3_sheetOf w_se_X3_sheetOf w_in_X3 w_co_X3_sheetOf) rfl rfl rfl ⟨rfl, hd_X3_sheetOf⟩ ⟨Nat.le_of_ble_eq_true rfl, Nat.le_of_ble_eq_true rfl⟩) (pe_W (C := RX3) (T := TX3) (N := 8) (ci := 3) (q0 := 2) hP hE rfl rfl) rfl rfl hl.1 rfl (lv_room (Nat.le_of_ble_eq_true rfl)) dX3_recallAllOf_26 ⟨Nat.zero_le _, Nat.zero_le _⟩)) ?_
            refine lv_iload_n hx hb dX3_recallAllOf_29 rfl (lv_at hl 1 rfl) ?_
            refine lv_icmp_ne (tgt := 40) hx hb dX3_recallAllOf_30 (by decide) (fun c30 => ?_) (fun c30 => ?_)
            · have hv := (if_neg c30).symm.trans hv
              refine lv_iinc (v := x3 + 1) (lv' := [(3, .int (x3 + 1)), (0, .ref (a 2)), (1, .int p1), (2, .int p2)]) hx hb dX3_recallAllOf_40 hl (k := 3) rfl rfl (by decide) rfl (fun ls hl => ?_)
              refine lv_goto (tgt := 2) hx hb dX3_recallAllOf_43 (by decide) ?_
              exact ih (x3 + 1) O9 (upM_s c7 hm) (nn_inc i0 c7) hv _ _ hP hS ls (lv_sub hl [1, 2, 3, 0] rfl)
            · have hv := (if_pos c30).symm.trans hv
              refine lv_aload_n hx hb dX3_recallAllOf_33 rfl (lv_at hl 0 rfl) ?_
              refine va_get (D := D) (ci := 3) (v := .ref (a 13)) (C := RX3) (T := TX3) (N := 8) hx hb hts iw_X3 hown hK hP 2 rfl rfl 7 (by decide) (hts _ w_fl_X3_27) (fun _ h9 => h9) rfl dX3_recallAllOf_34 ?_
              refine lv_iload_n hx hb dX3_recallAllOf_37 rfl (lv_at hl 3 rfl) ?_
              refine lv_iload_n hx hb dX3_recallAllOf_38 rfl (lv_at hl 2 rfl) ?_
              refine va_iast (cA := cs 0) (n := 24) (f := (O9.2 13)) hx hb hK hP (of_D cs O9 hd) hS 13 0 rfl rfl (vp_a rfl i0 c13) dX3_recallAllOf_39 (fun H locs hP _ hS => ?_)
              have hP : va_P D vwC (ofW cs a (stA O9 13 (upd (O9.2 13) x3.toNatClampNeg p2))) H := hP
              refine lv_iinc (v := x3 + 1) (lv' := [(3, .int (x3 + 1)), (0, .ref (a 2)), (1, .int p1), (2, .int p2)]) hx hb dX3_recallAllOf_40 hl (k := 3) rfl rfl (by decide) rfl (fun ls hl => ?_)
              refine lv_goto (tgt := 2) hx hb dX3_recallAllOf_43 (by decide) ?_
              exact ih (x3 + 1) (stA O9 13 (upd (O9.2 13) x3.toNatClampNeg p2)) (upM_s c7 hm) (nn_inc i0 c7) hv _ _ hP hS ls (lv_sub hl [1, 2, 3, 0] rfl)
  exact LOOP _ 0 O (Nat.lt_succ_self _) (by decide) hv _ _ hP hS ls (lv_sub hl [1, 2, 3, 0] rfl)
theorem hd_X3_add : yX3_add.cls ≠ "java/lang/invoke/MethodHandle" ∧ yX3_add.cls ≠ "java/lang/invoke/VarHandle" ∧ (parseMethodDescriptor yX3_add.desc).map (fun d => d.parameters.length) = some 4 := by decide +kernel
def sX3_add (O : OF) (p1 : Int32) (p2 : Int32) (p3 : Int32) (p4 : Int32) : Int32 × OF := (if (O.1 2) < 0 then ((-4), O) else (if (O.1 2) < 24 then ((O.1 2), (stS (stS (stA (stA (stA (stA (stA (stA O 8 (upd (O.2 8) (O.1 2).toNatClampNeg p1)) 9 (upd (O.2 9) (O.1 2).toNatClampNeg p2)) 10 (upd (O.2 10) (O.1 2).toNatClampNeg p3)) 11 (upd (O.2 11) (O.1 2).toNatClampNeg p4)) 12 (upd (O.2 12) (O.1 2).toNatClampNeg 0)) 13 (upd (O.2 13) (O.1 2).toNatClampNeg (-1))) 3 ((O.1 3) ||| (1 <<< ((O.1 2) &&& 31)))) 2 ((O.1 2) + 1))) else ((-4), O)))
set_option maxHeartbeats 4000000 in
set_option maxRecDepth 100000 in
theorem c_X3_add (l : Launch) (D : va_G) (cs : Nat → ClassId) (a : Nat → Nat) (O : OF) (p1 : Int32) (p2 : Int32) (p3 : Int32) (p4 : Int32) (hd : oD a) : Met l yX3_add (wc yX3_add cX3_add 6 (some .int)) ({ frames := 0, cells := 0, slots := 0, locals := 0 } : Room) (va_Pc [.ref (a 2), .int p1, .int p2, .int p3, .int p4] (PE D cs (ofW cs a O))) (va_Qi (fun (r9 : Int32) (u : OF) => r9 = (sX3_add O p1 p2 p3 p4).1 ∧ u = (sX3_add O p1 p2 p3 p4).2) (fun u t => va_P D vwC (ofW cs a u) t.heap) (oA a)) 0 0 (oA a) := by
  obtain ⟨v, hv⟩ : ∃ v, sX3_add O p1 p2 p3 p4 = v := ⟨_, rfl⟩
  rw [hv]
  refine met_o (lv := [(0, .ref (a 2)), (1, .int p1), (2, .int p2), (3, .int p3), (4, .int p4)]) (by decide) (Nat.le_of_ble_eq_true rfl) rfl ?_
  intro p e s m args below meth c ls hx hb hr hml hts hown hlocks hin hP hE hl
  have hown : s.vm.findClass RX3 = some m.cls := hown
  have hK := hE.1
  have hP : va_P D vwC (ofW cs a O) s.heap := hP
  have hS : va_S (oA a) s.heap s.heap [] := va_S.rf
  unfold sX3_add at hv
  refine lv_aload_n hx hb dX3_add_0 rfl (lv_at hl 0 rfl) ?_
  refine va_get (D := D) (ci := 3) (v := .int (O.1 2)) (C := RX3) (T := TX3) (N := 8) hx hb hts iw_X3 hown hK hP 2 rfl rfl 0 (by decide) (hts _ w_fl_X3_30) (fun _ h9 => h9) rfl dX3_add_1 ?_
  refine lv_istore (lv' := [(5, .int (O.1 2)), (0, .ref (a 2)), (1, .int p1), (2, .int p2), (3, .int p3), (4, .int p4)]) hx hb dX3_add_4 hl (by decide) rfl (fun ls hl => ?_)
  refine lv_iload hx hb dX3_add_6 (lv_at hl 0 rfl) ?_
  refine lv_if_lt (tgt := 18) hx hb dX3_add_8 (by decide) (fun c8 => ?_) (fun c8 => ?_)
  · have hv := (if_pos c8).symm.trans hv
    refine lv_bipush (v := (-4)) hx hb dX3_add_18 (by decide) ?_
    exact W.iret (v := (-4)) hx hb hr (fun t ht hW => ⟨⟨(-4), O, rfl, pair_eq hv, pw ht hP⟩, hS.F ht⟩) hS.2.2 dX3_add_20 (hlocks := hlocks)
  · have hv := (if_neg c8).symm.trans hv
    refine lv_iload hx hb dX3_add_11 (lv_at hl 0 rfl) ?_
    refine lv_bipush (v := 24) hx hb dX3_add_13 (by decide) ?_
    refine lv_icmp_lt (tgt := 21) hx hb dX3_add_15 (by decide) (fun c15 => ?_) (fun c15 => ?_)
    · have hv := (if_pos c15).symm.trans hv
      refine lv_aload_n hx hb dX3_add_21 rfl (lv_at hl 1 rfl) ?_
      refine va_get (D := D) (ci := 3) (v := .ref (a 8)) (C := RX3) (T := TX3) (N := 8) hx hb hts iw_X3 hown hK hP 2 rfl rfl 2 (by decide) (hts _ w_fl_X3_9) (fun _ h9 => h9) rfl dX3_add_22 ?_
      refine lv_iload hx hb dX3_add_25 (lv_at hl 0 rfl) ?_
      refine lv_iload_n hx hb dX3_add_27 rfl (lv_at hl 2 rfl) ?_
      refine va_iast (cA := cs 0) (n := 24) (f := (O.2 8)) hx hb hK hP (of_D cs O hd) hS 8 0 rfl rfl (vp_b rfl c8 c15) dX3_add_28 (fun H locs hP _ hS => ?_)
      have hP : va_P D vwC (ofW cs a (stA O 8 (upd (O.2 8) (O.1 2).toNatClampNeg p1))) H := hP
      refine lv_aload_n hx hb dX3_add_29 rfl (lv_at hl 1 rfl) ?_
      refine va_get (D := D) (ci := 3) (v := .ref (a 9)) (C := RX3) (T := TX3) (N := 8) hx hb hts iw_X3 hown hK hP 2 rfl rfl 3 (by decide) (hts _ w_fl_X3_15) (fun _ h9 => h9) rfl dX3_add_30 ?_
      refine lv_iload hx hb dX3_add_33 (lv_at hl 0 rfl) ?_
      refine lv_iload_n hx hb dX3_add_35 rfl (lv_at hl 3 rfl) ?_
      refine va_iast (cA := cs 0) (n := 24) (f := (O.2 9)) hx hb hK hP (of_D cs (stA O 8 (upd (O.2 8) (O.1 2).toNatClampNeg p1)) hd) hS 9 0 rfl rfl (vp_b rfl c8 c15) dX3_add_36 (fun H locs hP _ hS => ?_)
      have hP : va_P D vwC (ofW cs a (stA (stA O 8 (upd (O.2 8) (O.1 2).toNatClampNeg p1)) 9 (upd (O.2 9) (O.1 2).toNatClampNeg p2))) H := hP
      refine lv_aload_n hx hb dX3_add_37 rfl (lv_at hl 1 rfl) ?_
      refine va_get (D := D) (ci := 3) (v := .ref (a 10)) (C := RX3) (T := TX3) (N := 8) hx hb hts iw_X3 hown hK hP 2 rfl rfl 4 (by decide) (hts _ w_fl_X3_18) (fun _ h9 => h9) rfl dX3_add_38 ?_
      refine lv_iload hx hb dX3_add_41 (lv_at hl 0 rfl) ?_
      refine lv_iload_n hx hb dX3_add_43 rfl (lv_at hl 4 rfl) ?_
      refine va_iast (cA := cs 0) (n := 24) (f := (O.2 10)) hx hb hK hP (of_D cs (stA (stA O 8 (upd (O.2 8) (O.1 2).toNatClampNeg p1)) 9 (upd (O.2 9) (O.1 2).toNatClampNeg p2)) hd) hS 10 0 rfl rfl (vp_b rfl c8 c15) dX3_add_44 (fun H locs hP _ hS => ?_)
      have hP : va_P D vwC (ofW cs a (stA (stA (stA O 8 (upd (O.2 8) (O.1 2).toNatClampNeg p1)) 9 (upd (O.2 9) (O.1 2).toNatClampNeg p2)) 10 (upd (O.2 10) (O.1 2).toNatClampNeg p3))) H := hP
      refine lv_aload_n hx hb dX3_add_45 rfl (lv_at hl 1 rfl) ?_
      refine va_get (D := D) (ci := 3) (v := .ref (a 11)) (C := RX3) (T := TX3) (N := 8) hx hb hts iw_X3 hown hK hP 2 rfl rfl 5 (by decide) (hts _ w_fl_X3_21) (fun _ h9 => h9) rfl dX3_add_46 ?_
      refine lv_iload hx hb dX3_add_49 (lv_at hl 0 rfl) ?_
      refine lv_iload hx hb dX3_add_51 (lv_at hl 5 rfl) ?_
      refine va_iast (cA := cs 0) (n := 24) (f := (O.2 11)) hx hb hK hP (of_D cs (stA (stA (stA O 8 (upd (O.2 8) (O.1 2).toNatClampNeg p1)) 9 (upd (O.2 9) (O.1 2).toNatClampNeg p2)) 10 (upd (O.2 10) (O.1 2).toNatClampNeg p3)) hd) hS 11 0 rfl rfl (vp_b rfl c8 c15) dX3_add_53 (fun H locs hP _ hS => ?_)
      have hP : va_P D vwC (ofW cs a (stA (stA (stA (stA O 8 (upd (O.2 8) (O.1 2).toNatClampNeg p1)) 9 (upd (O.2 9) (O.1 2).toNatClampNeg p2)) 10 (upd (O.2 10) (O.1 2).toNatClampNeg p3)) 11 (upd (O.2 11) (O.1 2).toNatClampNeg p4))) H := hP
      refine lv_aload_n hx hb dX3_add_54 rfl (lv_at hl 1 rfl) ?_
      refine va_get (D := D) (ci := 3) (v := .ref (a 12)) (C := RX3) (T := TX3) (N := 8) hx hb hts iw_X3 hown hK hP 2 rfl rfl 6 (by decide) (hts _ w_fl_X3_24) (fun _ h9 => h9) rfl dX3_add_55 ?_
      refine lv_iload hx hb dX3_add_58 (lv_at hl 0 rfl) ?_
      refine lv_iconst (v := 0) hx hb dX3_add_60 (by decide) ?_
      refine va_iast (cA := cs 0) (n := 24) (f := (O.2 12)) hx hb hK hP (of_D cs (stA (stA (stA (stA O 8 (upd (O.2 8) (O.1 2).toNatClampNeg p1)) 9 (upd (O.2 9) (O.1 2).toNatClampNeg p2)) 10 (upd (O.2 10) (O.1 2).toNatClampNeg p3)) 11 (upd (O.2 11) (O.1 2).toNatClampNeg p4)) hd) hS 12 0 rfl rfl (vp_b rfl c8 c15) dX3_add_61 (fun H locs hP _ hS => ?_)
      have hP : va_P D vwC (ofW cs a (stA (stA (stA (stA (stA O 8 (upd (O.2 8) (O.1 2).toNatClampNeg p1)) 9 (upd (O.2 9) (O.1 2).toNatClampNeg p2)) 10 (upd (O.2 10) (O.1 2).toNatClampNeg p3)) 11 (upd (O.2 11) (O.1 2).toNatClampNeg p4)) 12 (upd (O.2 12) (O.1 2).toNatClampNeg 0))) H := hP
      refine lv_aload_n hx hb dX3_add_62 rfl (lv_at hl 1 rfl) ?_
      refine va_get (D := D) (ci := 3) (v := .ref (a 13)) (C := RX3) (T := TX3) (N := 8) hx hb hts iw_X3 hown hK hP 2 rfl rfl 7 (by decide) (hts _ w_fl_X3_27) (fun _ h9 => h9) rfl dX3_add_63 ?_
      refine lv_iload hx hb dX3_add_66 (lv_at hl 0 rfl) ?_
      refine lv_iconst (v := (-1)) hx hb dX3_add_68 (by decide) ?_
      refine va_iast (cA := cs 0) (n := 24) (f := (O.2 13)) hx hb hK hP (of_D cs (stA (stA (stA (stA (stA O 8 (upd (O.2 8) (O.1 2).toNatClampNeg p1)) 9 (upd (O.2 9) (O.1 2).toNatClampNeg p2)) 10 (upd (O.2 10) (O.1 2).toNatClampNeg p3)) 11 (upd (O.2 11) (O.1 2).toNatClampNeg p4)) 12 (upd (O.2 12) (O.1 2).toNatClampNeg 0)) hd) hS 13 0 rfl rfl (vp_b rfl c8 c15) dX3_add_69 (fun H locs hP _ hS => ?_)
      have hP : va_P D vwC (ofW cs a (stA (stA (stA (stA (stA (stA O 8 (upd (O.2 8) (O.1 2).toNatClampNeg p1)) 9 (upd (O.2 9) (O.1 2).toNatClampNeg p2)) 10 (upd (O.2 10) (O.1 2).toNatClampNeg p3)) 11 (upd (O.2 11) (O.1 2).toNatClampNeg p4)) 12 (upd (O.2 12) (O.1 2).toNatClampNeg 0)) 13 (upd (O.2 13) (O.1 2).toNatClampNeg (-1)))) H := hP
      refine lv_aload_n hx hb dX3_add_70 rfl (lv_at hl 1 rfl) ?_
      refine lv_dup hx hb dX3_add_71 rfl ?_
      refine va_get (D := D) (ci := 3) (v := .int (O.1 3)) (C := RX3) (T := TX3) (N := 8) hx hb hts iw_X3 hown hK hP 2 rfl rfl 1 (by decide) (hts _ w_fl_X3_34) (fun _ h9 => h9) rfl dX3_add_72 ?_
      refine lv_iconst (v := 1) hx hb dX3_add_75 (by decide) ?_
      refine lv_iload hx hb dX3_add_76 (lv_at hl 0 rfl) ?_
      refine lv_ishl hx hb dX3_add_78 ?_
      refine lv_ior hx hb dX3_add_79 ?_
      refine va_put (D := D) (ci := 3) (v := .int ((O.1 3) ||| (1 <<< ((O.1 2) &&& 31)))) (ty := .int) (C := RX3) (T := TX3) (N := 8) hx hb hts iw_X3 tyX3 tyX3_ok nmX3 hown hK hP (of_D cs (stA (stA (stA (stA (stA (stA O 8 (upd (O.2 8) (O.1 2).toNatClampNeg p1)) 9 (upd (O.2 9) (O.1 2).toNatClampNeg p2)) 10 (upd (O.2 10) (O.1 2).toNatClampNeg p3)) 11 (upd (O.2 11) (O.1 2).toNatClampNeg p4)) 12 (upd (O.2 12) (O.1 2).toNatClampNeg 0)) 13 (upd (O.2 13) (O.1 2).toNatClampNeg (-1))) hd) hS 2 rfl rfl 1 (by decide) (hts _ w_fl_X3_34) (fun _ h9 => h9) rfl (by decide +kernel) rfl rfl (Nat.le_of_ble_eq_true rfl) dX3_add_80 (fun H locs hP _ hS => ?_)
      have hP : va_P D vwC (ofW cs a (stS (stA (stA (stA (stA (stA (stA O 8 (upd (O.2 8) (O.1 2).toNatClampNeg p1)) 9 (upd (O.2 9) (O.1 2).toNatClampNeg p2)) 10 (upd (O.2 10) (O.1 2).toNatClampNeg p3)) 11 (upd (O.2 11) (O.1 2).toNatClampNeg p4)) 12 (upd (O.2 12) (O.1 2).toNatClampNeg 0)) 13 (upd (O.2 13) (O.1 2).toNatClampNeg (-1))) 3 ((O.1 3) ||| (1 <<< ((O.1 2) &&& 31))))) H := hP
      refine lv_aload_n hx hb dX3_add_83 rfl (lv_at hl 1 rfl) ?_
      refine lv_dup hx hb dX3_add_84 rfl ?_
      refine va_get (D := D) (ci := 3) (v := .int (O.1 2)) (C := RX3) (T := TX3) (N := 8) hx hb hts iw_X3 hown hK hP 2 rfl rfl 0 (by decide) (hts _ w_fl_X3_30) (fun _ h9 => h9) rfl dX3_add_85 ?_
      refine lv_iconst (v := 1) hx hb dX3_add_88 (by decide) ?_
      refine lv_iadd hx hb dX3_add_89 ?_
      refine va_put (D := D) (ci := 3) (v := .int ((O.1 2) + 1)) (ty := .int) (C := RX3) (T := TX3) (N := 8) hx hb hts iw_X3 tyX3 tyX3_ok nmX3 hown hK hP (of_D cs (stS (stA (stA (stA (stA (stA (stA O 8 (upd (O.2 8) (O.1 2).toNatClampNeg p1)) 9 (upd (O.2 9) (O.1 2).toNatClampNeg p2)) 10 (upd (O.2 10) (O.1 2).toNatClampNeg p3)) 11 (upd (O.2 11) (O.1 2).toNatClampNeg p4)) 12 (upd (O.2 12) (O.1 2).toNatClampNeg 0)) 13 (upd (O.2 13) (O.1 2).toNatClampNeg (-1))) 3 ((O.1 3) ||| (1 <<< ((O.1 2) &&& 31)))) hd) hS 2 rfl rfl 0 (by decide) (hts _ w_fl_X3_30) (fun _ h9 => h9) rfl (by decide +kernel) rfl rfl (Nat.le_of_ble_eq_true rfl) dX3_add_90 (fun H locs hP _ hS => ?_)
      have hP : va_P D vwC (ofW cs a (stS (stS (stA (stA (stA (stA (stA (stA O 8 (upd (O.2 8) (O.1 2).toNatClampNeg p1)) 9 (upd (O.2 9) (O.1 2).toNatClampNeg p2)) 10 (upd (O.2 10) (O.1 2).toNatClampNeg p3)) 11 (upd (O.2 11) (O.1 2).toNatClampNeg p4)) 12 (upd (O.2 12) (O.1 2).toNatClampNeg 0)) 13 (upd (O.2 13) (O.1 2).toNatClampNeg (-1))) 3 ((O.1 3) ||| (1 <<< ((O.1 2) &&& 31)))) 2 ((O.1 2) + 1))) H := hP
      refine lv_iload hx hb dX3_add_93 (lv_at hl 0 rfl) ?_
      exact W.iret (v := (O.1 2)) hx hb hr (fun t ht hW => ⟨⟨(O.1 2), (stS (stS (stA (stA (stA (stA (stA (stA O 8 (upd (O.2 8) (O.1 2).toNatClampNeg p1)) 9 (upd (O.2 9) (O.1 2).toNatClampNeg p2)) 10 (upd (O.2 10) (O.1 2).toNatClampNeg p3)) 11 (upd (O.2 11) (O.1 2).toNatClampNeg p4)) 12 (upd (O.2 12) (O.1 2).toNatClampNeg 0)) 13 (upd (O.2 13) (O.1 2).toNatClampNeg (-1))) 3 ((O.1 3) ||| (1 <<< ((O.1 2) &&& 31)))) 2 ((O.1 2) + 1)), rfl, pair_eq hv, pw ht hP⟩, hS.F ht⟩) hS.2.2 dX3_add_95 (hlocks := hlocks)
    · have hv := (if_neg c15).symm.trans hv
      refine lv_bipush (v := (-4)) hx hb dX3_add_18 (by decide) ?_
      exact W.iret (v := (-4)) hx hb hr (fun t ht hW => ⟨⟨(-4), O, rfl, pair_eq hv, pw ht hP⟩, hS.F ht⟩) hS.2.2 dX3_add_20 (hlocks := hlocks)
theorem hd_X3_addStamp : yX3_addStamp.cls ≠ "java/lang/invoke/MethodHandle" ∧ yX3_addStamp.cls ≠ "java/lang/invoke/VarHandle" ∧ (parseMethodDescriptor yX3_addStamp.desc).map (fun d => d.parameters.length) = some 2 := by decide +kernel
def sX3_addStamp (O : OF) (p1 : Int32) (p2 : Int32) : Int32 × OF := (if (sX3_has O p1) = true then (sJ6_bitCount_0f7a4 (sX3_stampsOf (stA O 12 (upd (O.2 12) p1.toNatClampNeg (((O.2 12) p1.toNatClampNeg) ||| (1 <<< (p2 &&& 31))))) p1), (stA O 12 (upd (O.2 12) p1.toNatClampNeg (((O.2 12) p1.toNatClampNeg) ||| (1 <<< (p2 &&& 31)))))) else (sJ6_bitCount_0f7a4 (sX3_stampsOf O p1), O))
set_option maxHeartbeats 4000000 in
set_option maxRecDepth 100000 in
theorem c_X3_addStamp (l : Launch) (D : va_G) (cs : Nat → ClassId) (a : Nat → Nat) (O : OF) (p1 : Int32) (p2 : Int32) (hd : oD a) : Met l yX3_addStamp (wc yX3_addStamp cX3_addStamp 3 (some .int)) ({ frames := 2, cells := 0, slots := 0, locals := 42 } : Room) (va_Pc [.ref (a 2), .int p1, .int p2] (PE D cs (ofW cs a O))) (va_Qi (fun (r9 : Int32) (u : OF) => r9 = (sX3_addStamp O p1 p2).1 ∧ u = (sX3_addStamp O p1 p2).2) (fun u t => va_P D vwC (ofW cs a u) t.heap) (oA a)) 0 0 (oA a) := by
  obtain ⟨v, hv⟩ : ∃ v, sX3_addStamp O p1 p2 = v := ⟨_, rfl⟩
  rw [hv]
  refine met_o (lv := [(0, .ref (a 2)), (1, .int p1), (2, .int p2)]) (by decide) (Nat.le_of_ble_eq_true rfl) rfl ?_
  intro p e s m args below meth c ls hx hb hr hml hts hown hlocks hin hP hE hl
  have hown : s.vm.findClass RX3 = some m.cls := hown
  have hK := hE.1
  have hP : va_P D vwC (ofW cs a O) s.heap := hP
  have hS : va_S (oA a) s.heap s.heap [] := va_S.rf
  unfold sX3_addStamp at hv
  refine lv_aload_n hx hb dX3_addStamp_0 rfl (lv_at hl 0 rfl) ?_
  refine lv_iload_n hx hb dX3_addStamp_1 rfl (lv_at hl 1 rfl) ?_
  refine ro_i (b2i (sX3_has O p1)) (run_c (va_runV (As := [.int p1]) (rest := []) ⟨hx, hb, hml, hown, hts⟩ (c_X3_has l D cs a O p1) (cwV 1 hts (good_V w_ml_X3_43 w_im_X3_has w_se_X3_has w_in_X3 w_co_X3_has) rfl rfl rfl ⟨rfl, hd_X3_has⟩ ⟨Nat.le_of_ble_eq_true rfl, Nat.le_of_ble_eq_true rfl⟩) (pe_W (C := RX3) (T := TX3) (N := 8) (ci := 3) (q0 := 2) hP hE rfl rfl) rfl rfl hl.1 rfl (lv_room (Nat.le_of_ble_eq_true rfl)) dX3_addStamp_2 ⟨Nat.zero_le _, Nat.zero_le _⟩)) ?_
  refine lv_if_eq (tgt := 20) hx hb dX3_addStamp_5 (by decide) (fun c5 => ?_) (fun c5 => ?_)
  · have c5 := b2i_f c5
    have hv := (if_neg c5).symm.trans hv
    refine lv_aload_n hx hb dX3_addStamp_20 rfl (lv_at hl 0 rfl) ?_
    refine lv_iload_n hx hb dX3_addStamp_21 rfl (lv_at hl 1 rfl) ?_
    refine ro_i (sX3_stampsOf O p1) (run_c (va_runV (As := [.int p1]) (rest := []) ⟨hx, hb, hml, hown, hts⟩ (c_X3_stampsOf l D cs a O p1) (cwV 1 hts (good_V w_ml_X3_84 w_im_X3_stampsOf w_se_X3_stampsOf w_in_X3 w_co_X3_stampsOf) rfl rfl rfl ⟨rfl, hd_X3_stampsOf⟩ ⟨Nat.le_of_ble_eq_true rfl, Nat.le_of_ble_eq_true rfl⟩) (pe_W (C := RX3) (T := TX3) (N := 8) (ci := 3) (q0 := 2) hP hE rfl rfl) rfl rfl hl.1 rfl (lv_room (Nat.le_of_ble_eq_true rfl)) dX3_addStamp_22 ⟨Nat.zero_le _, Nat.zero_le _⟩)) ?_
    refine ro_i (sJ6_bitCount_0f7a4 (sX3_stampsOf O p1)) (run_c (va_runS (As := [.int (sX3_stampsOf O p1)]) (rest := []) ⟨hx, hb, hml, hown, hts⟩ (c_J6_bitCount_0f7a4 l D cs (sX3_stampsOf O p1)) (va_cwS 1 hts (good_T w_ml_X3_67 w_st_J6_bitCount_0f7a4 w_in_J6 w_co_J6_bitCount_0f7a4) rfl rfl rfl hd_J6_bitCount_0f7a4 ⟨Nat.le_of_ble_eq_true rfl, Nat.le_of_ble_eq_true rfl⟩) (pe_S (p_nil D _) hE) rfl rfl hl.1 rfl (lv_room (Nat.le_of_ble_eq_true rfl)) dX3_addStamp_25 ⟨Nat.zero_le _, Nat.zero_le _⟩)) ?_
    exact W.iret (v := sJ6_bitCount_0f7a4 (sX3_stampsOf O p1)) hx hb hr (fun t ht hW => ⟨⟨sJ6_bitCount_0f7a4 (sX3_stampsOf O p1), O, rfl, pair_eq hv, pw ht hP⟩, hS.F ht⟩) hS.2.2 dX3_addStamp_28 (hlocks := hlocks)
  · have c5 := b2i_t c5
    have hv := (if_pos c5).symm.trans hv
    refine lv_aload_n hx hb dX3_addStamp_8 rfl (lv_at hl 0 rfl) ?_
    refine va_get (D := D) (ci := 3) (v := .ref (a 12)) (C := RX3) (T := TX3) (N := 8) hx hb hts iw_X3 hown hK hP 2 rfl rfl 6 (by decide) (hts _ w_fl_X3_24) (fun _ h9 => h9) rfl dX3_addStamp_9 ?_
    refine lv_iload_n hx hb dX3_addStamp_12 rfl (lv_at hl 1 rfl) ?_
    refine lv_dup2_11 hx hb dX3_addStamp_13 rfl rfl ?_
    refine va_iald (cA := cs 0) (n := 24) (f := (O.2 12)) hx hb hK hP 12 0 rfl rfl (by first | exact X3_in (by assumption) | exact in_X7_isSetting (by assumption)) dX3_addStamp_14 ?_
    refine lv_iconst (v := 1) hx hb dX3_addStamp_15 (by decide) ?_
    refine lv_iload_n hx hb dX3_addStamp_16 rfl (lv_at hl 2 rfl) ?_
    refine lv_ishl hx hb dX3_addStamp_17 ?_
    refine lv_ior hx hb dX3_addStamp_18 ?_
    refine va_iast (cA := cs 0) (n := 24) (f := (O.2 12)) hx hb hK hP (of_D cs O hd) hS 12 0 rfl rfl (by first | exact X3_in (by assumption) | exact in_X7_isSetting (by assumption)) dX3_addStamp_19 (fun H locs hP _ hS => ?_)
    have hP : va_P D vwC (ofW cs a (stA O 12 (upd (O.2 12) p1.toNatClampNeg (((O.2 12) p1.toNatClampNeg) ||| (1 <<< (p2 &&& 31)))))) H := hP
    refine lv_aload_n hx hb dX3_addStamp_20 rfl (lv_at hl 0 rfl) ?_
    refine lv_iload_n hx hb dX3_addStamp_21 rfl (lv_at hl 1 rfl) ?_
    refine ro_i (sX3_stampsOf (stA O 12 (upd (O.2 12) p1.toNatClampNeg (((O.2 12) p1.toNatClampNeg) ||| (1 <<< (p2 &&& 31))))) p1) (run_c (va_runV (As := [.int p1]) (rest := []) ⟨hx, hb, hml, hown, hts⟩ (c_X3_stampsOf l D cs a (stA O 12 (upd (O.2 12) p1.toNatClampNeg (((O.2 12) p1.toNatClampNeg) ||| (1 <<< (p2 &&& 31))))) p1) (cwV 1 hts (good_V w_ml_X3_84 w_im_X3_stampsOf w_se_X3_stampsOf w_in_X3 w_co_X3_stampsOf) rfl rfl rfl ⟨rfl, hd_X3_stampsOf⟩ ⟨Nat.le_of_ble_eq_true rfl, Nat.le_of_ble_eq_true rfl⟩) (pe_W (C := RX3) (T := TX3) (N := 8) (ci := 3) (q0 := 2) hP hE rfl rfl) rfl rfl hl.1 rfl (lv_room (Nat.le_of_ble_eq_true rfl)) dX3_addStamp_22 ⟨Nat.zero_le _, Nat.zero_le _⟩)) ?_
    refine ro_i (sJ6_bitCount_0f7a4 (sX3_stampsOf (stA O 12 (upd (O.2 12) p1.toNatClampNeg (((O.2 12) p1.toNatClampNeg) ||| (1 <<< (p2 &&& 31))))) p1)) (run_c (va_runS (As := [.int (sX3_stampsOf (stA O 12 (upd (O.2 12) p1.toNatClampNeg (((O.2 12) p1.toNatClampNeg) ||| (1 <<< (p2 &&& 31))))) p1)]) (rest := []) ⟨hx, hb, hml, hown, hts⟩ (c_J6_bitCount_0f7a4 l D cs (sX3_stampsOf (stA O 12 (upd (O.2 12) p1.toNatClampNeg (((O.2 12) p1.toNatClampNeg) ||| (1 <<< (p2 &&& 31))))) p1)) (va_cwS 1 hts (good_T w_ml_X3_67 w_st_J6_bitCount_0f7a4 w_in_J6 w_co_J6_bitCount_0f7a4) rfl rfl rfl hd_J6_bitCount_0f7a4 ⟨Nat.le_of_ble_eq_true rfl, Nat.le_of_ble_eq_true rfl⟩) (pe_S (p_nil D _) hE) rfl rfl hl.1 rfl (lv_room (Nat.le_of_ble_eq_true rfl)) dX3_addStamp_25 ⟨Nat.zero_le _, Nat.zero_le _⟩)) ?_
    exact W.iret (v := sJ6_bitCount_0f7a4 (sX3_stampsOf (stA O 12 (upd (O.2 12) p1.toNatClampNeg (((O.2 12) p1.toNatClampNeg) ||| (1 <<< (p2 &&& 31))))) p1)) hx hb hr (fun t ht hW => ⟨⟨sJ6_bitCount_0f7a4 (sX3_stampsOf (stA O 12 (upd (O.2 12) p1.toNatClampNeg (((O.2 12) p1.toNatClampNeg) ||| (1 <<< (p2 &&& 31))))) p1), (stA O 12 (upd (O.2 12) p1.toNatClampNeg (((O.2 12) p1.toNatClampNeg) ||| (1 <<< (p2 &&& 31))))), rfl, pair_eq hv, pw ht hP⟩, hS.F ht⟩) hS.2.2 dX3_addStamp_28 (hlocks := hlocks)
theorem hd_X3_markBack : yX3_markBack.cls ≠ "java/lang/invoke/MethodHandle" ∧ yX3_markBack.cls ≠ "java/lang/invoke/VarHandle" ∧ (parseMethodDescriptor yX3_markBack.desc).map (fun d => d.parameters.length) = some 1 := by decide +kernel
def sX3_markBack (O : OF) (p1 : Int32) : OF := (stS O 3 ((O.1 3) &&& ((1 <<< (p1 &&& 31)) ^^^ (-1))))
set_option maxHeartbeats 4000000 in
set_option maxRecDepth 100000 in
theorem c_X3_markBack (l : Launch) (D : va_G) (cs : Nat → ClassId) (a : Nat → Nat) (O : OF) (p1 : Int32) (hd : oD a) : Met l yX3_markBack (wc yX3_markBack cX3_markBack 2 none) ({ frames := 0, cells := 0, slots := 0, locals := 0 } : Room) (va_Pc [.ref (a 2), .int p1] (PE D cs (ofW cs a O))) (va_Qv (fun u : OF => u = (sX3_markBack O p1)) (fun u t => va_P D vwC (ofW cs a u) t.heap) (oA a)) 0 0 (oA a) := by
  obtain ⟨v, hv⟩ : ∃ v, sX3_markBack O p1 = v := ⟨_, rfl⟩
  rw [hv]
  refine met_o (lv := [(0, .ref (a 2)), (1, .int p1)]) (by decide) (Nat.le_of_ble_eq_true rfl) rfl ?_
  intro p e s m args below meth c ls hx hb hr hml hts hown hlocks hin hP hE hl
  have hown : s.vm.findClass RX3 = some m.cls := hown
  have hK := hE.1
  have hP : va_P D vwC (ofW cs a O) s.heap := hP
  have hS : va_S (oA a) s.heap s.heap [] := va_S.rf
  unfold sX3_markBack at hv
  refine lv_aload_n hx hb dX3_markBack_0 rfl (lv_at hl 0 rfl) ?_
  refine lv_dup hx hb dX3_markBack_1 rfl ?_
  refine va_get (D := D) (ci := 3) (v := .int (O.1 3)) (C := RX3) (T := TX3) (N := 8) hx hb hts iw_X3 hown hK hP 2 rfl rfl 1 (by decide) (hts _ w_fl_X3_34) (fun _ h9 => h9) rfl dX3_markBack_2 ?_
  refine lv_iconst (v := 1) hx hb dX3_markBack_5 (by decide) ?_
  refine lv_iload_n hx hb dX3_markBack_6 rfl (lv_at hl 1 rfl) ?_
  refine lv_ishl hx hb dX3_markBack_7 ?_
  refine lv_iconst (v := (-1)) hx hb dX3_markBack_8 (by decide) ?_
  refine lv_ixor hx hb dX3_markBack_9 ?_
  refine lv_iand hx hb dX3_markBack_10 ?_
  refine va_put (D := D) (ci := 3) (v := .int ((O.1 3) &&& ((1 <<< (p1 &&& 31)) ^^^ (-1)))) (ty := .int) (C := RX3) (T := TX3) (N := 8) hx hb hts iw_X3 tyX3 tyX3_ok nmX3 hown hK hP (of_D cs O hd) hS 2 rfl rfl 1 (by decide) (hts _ w_fl_X3_34) (fun _ h9 => h9) rfl (by decide +kernel) rfl rfl (Nat.le_of_ble_eq_true rfl) dX3_markBack_11 (fun H locs hP _ hS => ?_)
  have hP : va_P D vwC (ofW cs a (stS O 3 ((O.1 3) &&& ((1 <<< (p1 &&& 31)) ^^^ (-1))))) H := hP
  exact W.vret hx hb hr (fun t ht hW => ⟨⟨(stS O 3 ((O.1 3) &&& ((1 <<< (p1 &&& 31)) ^^^ (-1)))), rfl, hv, pw ht hP⟩, hS.F ht⟩) hS.2.2 dX3_markBack_14 (hlocks := hlocks)
theorem hd_X3_clear : yX3_clear.cls ≠ "java/lang/invoke/MethodHandle" ∧ yX3_clear.cls ≠ "java/lang/invoke/VarHandle" ∧ (parseMethodDescriptor yX3_clear.desc).map (fun d => d.parameters.length) = some 0 := by decide +kernel
def sX3_clear (O : OF) : OF := (stS (stS O 2 0) 3 0)
set_option maxHeartbeats 4000000 in
set_option maxRecDepth 100000 in
theorem c_X3_clear (l : Launch) (D : va_G) (cs : Nat → ClassId) (a : Nat → Nat) (O : OF) (hd : oD a) : Met l yX3_clear (wc yX3_clear cX3_clear 1 none) ({ frames := 0, cells := 0, slots := 0, locals := 0 } : Room) (va_Pc [.ref (a 2)] (PE D cs (ofW cs a O))) (va_Qv (fun u : OF => u = (sX3_clear O)) (fun u t => va_P D vwC (ofW cs a u) t.heap) (oA a)) 0 0 (oA a) := by
  obtain ⟨v, hv⟩ : ∃ v, sX3_clear O = v := ⟨_, rfl⟩
  rw [hv]
  refine met_o (lv := [(0, .ref (a 2))]) (by decide) (Nat.le_of_ble_eq_true rfl) rfl ?_
  intro p e s m args below meth c ls hx hb hr hml hts hown hlocks hin hP hE hl
  have hown : s.vm.findClass RX3 = some m.cls := hown
  have hK := hE.1
  have hP : va_P D vwC (ofW cs a O) s.heap := hP
  have hS : va_S (oA a) s.heap s.heap [] := va_S.rf
  unfold sX3_clear at hv
  refine lv_aload_n hx hb dX3_clear_0 rfl (lv_at hl 0 rfl) ?_
  refine lv_iconst (v := 0) hx hb dX3_clear_1 (by decide) ?_
  refine va_put (D := D) (ci := 3) (v := .int 0) (ty := .int) (C := RX3) (T := TX3) (N := 8) hx hb hts iw_X3 tyX3 tyX3_ok nmX3 hown hK hP (of_D cs O hd) hS 2 rfl rfl 0 (by decide) (hts _ w_fl_X3_30) (fun _ h9 => h9) rfl (by decide +kernel) rfl rfl (Nat.le_of_ble_eq_true rfl) dX3_clear_2 (fun H locs hP _ hS => ?_)
  have hP : va_P D vwC (ofW cs a (stS O 2 0)) H := hP
  refine lv_aload_n hx hb dX3_clear_5 rfl (lv_at hl 0 rfl) ?_
  refine lv_iconst (v := 0) hx hb dX3_clear_6 (by decide) ?_
  refine va_put (D := D) (ci := 3) (v := .int 0) (ty := .int) (C := RX3) (T := TX3) (N := 8) hx hb hts iw_X3 tyX3 tyX3_ok nmX3 hown hK hP (of_D cs (stS O 2 0) hd) hS 2 rfl rfl 1 (by decide) (hts _ w_fl_X3_34) (fun _ h9 => h9) rfl (by decide +kernel) rfl rfl (Nat.le_of_ble_eq_true rfl) dX3_clear_7 (fun H locs hP _ hS => ?_)
  have hP : va_P D vwC (ofW cs a (stS (stS O 2 0) 3 0)) H := hP
  exact W.vret hx hb hr (fun t ht hW => ⟨⟨(stS (stS O 2 0) 3 0), rfl, hv, pw ht hP⟩, hS.F ht⟩) hS.2.2 dX3_clear_10 (hlocks := hlocks)
theorem hd_X4_clear : yX4_clear.cls ≠ "java/lang/invoke/MethodHandle" ∧ yX4_clear.cls ≠ "java/lang/invoke/VarHandle" ∧ (parseMethodDescriptor yX4_clear.desc).map (fun d => d.parameters.length) = some 0 := by decide +kernel
def sX4_clear (O : OF) : OF := (stS (stS O 0 0) 1 0)
set_option maxHeartbeats 4000000 in
set_option maxRecDepth 100000 in
theorem c_X4_clear (l : Launch) (D : va_G) (cs : Nat → ClassId) (a : Nat → Nat) (O : OF) (hd : oD a) : Met l yX4_clear (wc yX4_clear cX4_clear 1 none) ({ frames := 0, cells := 0, slots := 0, locals := 0 } : Room) (va_Pc [.ref (a 1)] (PE D cs (ofW cs a O))) (va_Qv (fun u : OF => u = (sX4_clear O)) (fun u t => va_P D vwC (ofW cs a u) t.heap) (oA a)) 0 0 (oA a) := by
  obtain ⟨v, hv⟩ : ∃ v, sX4_clear O = v := ⟨_, rfl⟩
  rw [hv]
  refine met_o (lv := [(0, .ref (a 1))]) (by decide) (Nat.le_of_ble_eq_true rfl) rfl ?_
  intro p e s m args below meth c ls hx hb hr hml hts hown hlocks hin hP hE hl
  have hown : s.vm.findClass RX4 = some m.cls := hown
  have hK := hE.1
  have hP : va_P D vwC (ofW cs a O) s.heap := hP
  have hS : va_S (oA a) s.heap s.heap [] := va_S.rf
  unfold sX4_clear at hv
  refine lv_aload_n hx hb dX4_clear_0 rfl (lv_at hl 0 rfl) ?_
  refine lv_iconst (v := 0) hx hb dX4_clear_1 (by decide) ?_
  refine va_put (D := D) (ci := 4) (v := .int 0) (ty := .int) (C := RX4) (T := TX4) (N := 5) hx hb hts iw_X4 tyX4 tyX4_ok nmX4 hown hK hP (of_D cs O hd) hS 1 rfl rfl 0 (by decide) (hts _ w_fl_X4_21) (fun _ h9 => h9) rfl (by decide +kernel) rfl rfl (Nat.le_of_ble_eq_true rfl) dX4_clear_2 (fun H locs hP _ hS => ?_)
  have hP : va_P D vwC (ofW cs a (stS O 0 0)) H := hP
  refine lv_aload_n hx hb dX4_clear_5 rfl (lv_at hl 0 rfl) ?_
  refine lv_iconst (v := 0) hx hb dX4_clear_6 (by decide) ?_
  refine va_put (D := D) (ci := 4) (v := .int 0) (ty := .int) (C := RX4) (T := TX4) (N := 5) hx hb hts iw_X4 tyX4 tyX4_ok nmX4 hown hK hP (of_D cs (stS O 0 0) hd) hS 1 rfl rfl 1 (by decide) (hts _ w_fl_X4_25) (fun _ h9 => h9) rfl (by decide +kernel) rfl rfl (Nat.le_of_ble_eq_true rfl) dX4_clear_7 (fun H locs hP _ hS => ?_)
  have hP : va_P D vwC (ofW cs a (stS (stS O 0 0) 1 0)) H := hP
  exact W.vret hx hb hr (fun t ht hW => ⟨⟨(stS (stS O 0 0) 1 0), rfl, hv, pw ht hP⟩, hS.F ht⟩) hS.2.2 dX4_clear_10 (hlocks := hlocks)
theorem hd_X4_markChecked : yX4_markChecked.cls ≠ "java/lang/invoke/MethodHandle" ∧ yX4_markChecked.cls ≠ "java/lang/invoke/VarHandle" ∧ (parseMethodDescriptor yX4_markChecked.desc).map (fun d => d.parameters.length) = some 1 := by decide +kernel
def sX4_markChecked (O : OF) (p1 : Int32) : OF := (stS O 1 ((O.1 1) &&& ((1 <<< (p1 &&& 31)) ^^^ (-1))))
set_option maxHeartbeats 4000000 in
set_option maxRecDepth 100000 in
theorem c_X4_markChecked (l : Launch) (D : va_G) (cs : Nat → ClassId) (a : Nat → Nat) (O : OF) (p1 : Int32) (hd : oD a) : Met l yX4_markChecked (wc yX4_markChecked cX4_markChecked 2 none) ({ frames := 0, cells := 0, slots := 0, locals := 0 } : Room) (va_Pc [.ref (a 1), .int p1] (PE D cs (ofW cs a O))) (va_Qv (fun u : OF => u = (sX4_markChecked O p1)) (fun u t => va_P D vwC (ofW cs a u) t.heap) (oA a)) 0 0 (oA a) := by
  obtain ⟨v, hv⟩ : ∃ v, sX4_markChecked O p1 = v := ⟨_, rfl⟩
  rw [hv]
  refine met_o (lv := [(0, .ref (a 1)), (1, .int p1)]) (by decide) (Nat.le_of_ble_eq_true rfl) rfl ?_
  intro p e s m args below meth c ls hx hb hr hml hts hown hlocks hin hP hE hl
  have hown : s.vm.findClass RX4 = some m.cls := hown
  have hK := hE.1
  have hP : va_P D vwC (ofW cs a O) s.heap := hP
  have hS : va_S (oA a) s.heap s.heap [] := va_S.rf
  unfold sX4_markChecked at hv
  refine lv_aload_n hx hb dX4_markChecked_0 rfl (lv_at hl 0 rfl) ?_
  refine lv_dup hx hb dX4_markChecked_1 rfl ?_
  refine va_get (D := D) (ci := 4) (v := .int (O.1 1)) (C := RX4) (T := TX4) (N := 5) hx hb hts iw_X4 hown hK hP 1 rfl rfl 1 (by decide) (hts _ w_fl_X4_25) (fun _ h9 => h9) rfl dX4_markChecked_2 ?_
  refine lv_iconst (v := 1) hx hb dX4_markChecked_5 (by decide) ?_
  refine lv_iload_n hx hb dX4_markChecked_6 rfl (lv_at hl 1 rfl) ?_
  refine lv_ishl hx hb dX4_markChecked_7 ?_
  refine lv_iconst (v := (-1)) hx hb dX4_markChecked_8 (by decide) ?_
  refine lv_ixor hx hb dX4_markChecked_9 ?_
  refine lv_iand hx hb dX4_markChecked_10 ?_
  refine va_put (D := D) (ci := 4) (v := .int ((O.1 1) &&& ((1 <<< (p1 &&& 31)) ^^^ (-1)))) (ty := .int) (C := RX4) (T := TX4) (N := 5) hx hb hts iw_X4 tyX4 tyX4_ok nmX4 hown hK hP (of_D cs O hd) hS 1 rfl rfl 1 (by decide) (hts _ w_fl_X4_25) (fun _ h9 => h9) rfl (by decide +kernel) rfl rfl (Nat.le_of_ble_eq_true rfl) dX4_markChecked_11 (fun H locs hP _ hS => ?_)
  have hP : va_P D vwC (ofW cs a (stS O 1 ((O.1 1) &&& ((1 <<< (p1 &&& 31)) ^^^ (-1))))) H := hP
  exact W.vret hx hb hr (fun t ht hW => ⟨⟨(stS O 1 ((O.1 1) &&& ((1 <<< (p1 &&& 31)) ^^^ (-1)))), rfl, hv, pw ht hP⟩, hS.F ht⟩) hS.2.2 dX4_markChecked_14 (hlocks := hlocks)
theorem hd_X4_add : yX4_add.cls ≠ "java/lang/invoke/MethodHandle" ∧ yX4_add.cls ≠ "java/lang/invoke/VarHandle" ∧ (parseMethodDescriptor yX4_add.desc).map (fun d => d.parameters.length) = some 1 := by decide +kernel
def LX4_add_34 (O : OF) (p1 : Int32) : Nat → Int32 → OF → Int32 × OF
  | 0 => fun _ _ => (0, O)
  | n + 1 => fun x3 O9 => (if 12 ≤ x3 then ((O.1 0), (stS O9 0 ((O9.1 0) + 1))) else (LX4_add_34 O p1 n (x3 + 1) (stA O9 7 (upd (O9.2 7) (((O.1 0) * 12) + x3).toNatClampNeg 0))))
theorem LX4_add_34_eq (O : OF) (p1 : Int32) (n : Nat) (x3 : Int32) (O9 : OF) : LX4_add_34 O p1 (n + 1) x3 O9 = (if 12 ≤ x3 then ((O.1 0), (stS O9 0 ((O9.1 0) + 1))) else (LX4_add_34 O p1 n (x3 + 1) (stA O9 7 (upd (O9.2 7) (((O.1 0) * 12) + x3).toNatClampNeg 0)))) := rfl
def sX4_add (O : OF) (p1 : Int32) : Int32 × OF := (if (O.1 0) < 0 then ((-4), O) else (if (O.1 0) < 10 then (LX4_add_34 O p1 (upM 12 0 + 1) 0 (stA (stA O 5 (upd (O.2 5) (O.1 0).toNatClampNeg p1)) 6 (upd (O.2 6) (O.1 0).toNatClampNeg 0))) else ((-4), O)))
set_option maxHeartbeats 4000000 in
set_option maxRecDepth 100000 in
theorem c_X4_add (l : Launch) (D : va_G) (cs : Nat → ClassId) (a : Nat → Nat) (O : OF) (p1 : Int32) (hd : oD a) : Met l yX4_add (wc yX4_add cX4_add 4 (some .int)) ({ frames := 0, cells := 0, slots := 0, locals := 0 } : Room) (va_Pc [.ref (a 1), .int p1] (PE D cs (ofW cs a O))) (va_Qi (fun (r9 : Int32) (u : OF) => r9 = (sX4_add O p1).1 ∧ u = (sX4_add O p1).2) (fun u t => va_P D vwC (ofW cs a u) t.heap) (oA a)) 0 0 (oA a) := by
  obtain ⟨v, hv⟩ : ∃ v, sX4_add O p1 = v := ⟨_, rfl⟩
  rw [hv]
  refine met_o (lv := [(0, .ref (a 1)), (1, .int p1)]) (by decide) (Nat.le_of_ble_eq_true rfl) rfl ?_
  intro p e s m args below meth c ls hx hb hr hml hts hown hlocks hin hP hE hl
  have hown : s.vm.findClass RX4 = some m.cls := hown
  have hK := hE.1
  have hP : va_P D vwC (ofW cs a O) s.heap := hP
  have hS : va_S (oA a) s.heap s.heap [] := va_S.rf
  unfold sX4_add at hv
  refine lv_aload_n hx hb dX4_add_0 rfl (lv_at hl 0 rfl) ?_
  refine va_get (D := D) (ci := 4) (v := .int (O.1 0)) (C := RX4) (T := TX4) (N := 5) hx hb hts iw_X4 hown hK hP 1 rfl rfl 0 (by decide) (hts _ w_fl_X4_21) (fun _ h9 => h9) rfl dX4_add_1 ?_
  refine lv_istore_n (lv' := [(2, .int (O.1 0)), (0, .ref (a 1)), (1, .int p1)]) hx hb dX4_add_4 rfl hl (by decide) rfl (fun ls hl => ?_)
  refine lv_iload_n hx hb dX4_add_5 rfl (lv_at hl 0 rfl) ?_
  refine lv_if_lt (tgt := 15) hx hb dX4_add_6 (by decide) (fun c6 => ?_) (fun c6 => ?_)
  · have hv := (if_pos c6).symm.trans hv
    refine lv_bipush (v := (-4)) hx hb dX4_add_15 (by decide) ?_
    exact W.iret (v := (-4)) hx hb hr (fun t ht hW => ⟨⟨(-4), O, rfl, pair_eq hv, pw ht hP⟩, hS.F ht⟩) hS.2.2 dX4_add_17 (hlocks := hlocks)
  · have hv := (if_neg c6).symm.trans hv
    refine lv_iload_n hx hb dX4_add_9 rfl (lv_at hl 0 rfl) ?_
    refine lv_bipush (v := 10) hx hb dX4_add_10 (by decide) ?_
    refine lv_icmp_lt (tgt := 18) hx hb dX4_add_12 (by decide) (fun c12 => ?_) (fun c12 => ?_)
    · have hv := (if_pos c12).symm.trans hv
      refine lv_aload_n hx hb dX4_add_18 rfl (lv_at hl 1 rfl) ?_
      refine va_get (D := D) (ci := 4) (v := .ref (a 5)) (C := RX4) (T := TX4) (N := 5) hx hb hts iw_X4 hown hK hP 1 rfl rfl 2 (by decide) (hts _ w_fl_X4_9) (fun _ h9 => h9) rfl dX4_add_19 ?_
      refine lv_iload_n hx hb dX4_add_22 rfl (lv_at hl 0 rfl) ?_
      refine lv_iload_n hx hb dX4_add_23 rfl (lv_at hl 2 rfl) ?_
      refine va_iast (cA := cs 0) (n := 10) (f := (O.2 5)) hx hb hK hP (of_D cs O hd) hS 5 0 rfl rfl (vp_b rfl c6 c12) dX4_add_24 (fun H locs hP _ hS => ?_)
      have hP : va_P D vwC (ofW cs a (stA O 5 (upd (O.2 5) (O.1 0).toNatClampNeg p1))) H := hP
      refine lv_aload_n hx hb dX4_add_25 rfl (lv_at hl 1 rfl) ?_
      refine va_get (D := D) (ci := 4) (v := .ref (a 6)) (C := RX4) (T := TX4) (N := 5) hx hb hts iw_X4 hown hK hP 1 rfl rfl 3 (by decide) (hts _ w_fl_X4_15) (fun _ h9 => h9) rfl dX4_add_26 ?_
      refine lv_iload_n hx hb dX4_add_29 rfl (lv_at hl 0 rfl) ?_
      refine lv_iconst (v := 0) hx hb dX4_add_30 (by decide) ?_
      refine va_iast (cA := cs 0) (n := 10) (f := (O.2 6)) hx hb hK hP (of_D cs (stA O 5 (upd (O.2 5) (O.1 0).toNatClampNeg p1)) hd) hS 6 0 rfl rfl (vp_b rfl c6 c12) dX4_add_31 (fun H locs hP _ hS => ?_)
      have hP : va_P D vwC (ofW cs a (stA (stA O 5 (upd (O.2 5) (O.1 0).toNatClampNeg p1)) 6 (upd (O.2 6) (O.1 0).toNatClampNeg 0))) H := hP
      refine lv_iconst (v := 0) hx hb dX4_add_32 (by decide) ?_
      refine lv_istore_n (lv' := [(3, .int 0), (2, .int (O.1 0)), (0, .ref (a 1)), (1, .int p1)]) hx hb dX4_add_33 rfl hl (by decide) rfl (fun ls hl => ?_)
      have LOOP : ∀ (n : Nat) (x3 : Int32) (O9 : OF), upM 12 x3 < n → (¬ x3 < 0) → LX4_add_34 O p1 n x3 O9 = v → ∀ (H : Heap) (locs : List Loc), va_P D vwC (ofW cs a O9) H → va_S (oA a) s.heap H locs → ∀ ls : Array Slot, lv_has ls 4 [(0, .ref (a 1)), (1, .int p1), (2, .int (O.1 0)), (3, .int x3)] → W p l e ({ frames := 0, cells := 0, slots := 0, locals := 0 } : Room) s m args below meth c H locs 0 0 (MQ below (va_Qi (fun (r9 : Int32) (u : OF) => r9 = v.1 ∧ u = v.2) (fun u t => va_P D vwC (ofW cs a u) t.heap) (oA a)) args s 0 0 (oA a)) (F0 m 34 ls []) := by
        clear hv
        intro n
        induction n with
        | zero => intro x3 O9 hm; exact absurd hm (Nat.not_lt_zero _)
        | succ n ih =>
          intro x3 O9 hm i0 hv H locs hP hS ls hl
          have hv := (LX4_add_34_eq O p1 n x3 O9).symm.trans hv
          refine lv_iload_n hx hb dX4_add_34 rfl (lv_at hl 3 rfl) ?_
          refine lv_bipush (v := 12) hx hb dX4_add_35 (by decide) ?_
          refine lv_icmp_ge (tgt := 58) hx hb dX4_add_37 (by decide) (fun c37 => ?_) (fun c37 => ?_)
          · have hv := (if_pos c37).symm.trans hv
            refine lv_aload_n hx hb dX4_add_58 rfl (lv_at hl 0 rfl) ?_
            refine lv_dup hx hb dX4_add_59 rfl ?_
            refine va_get (D := D) (ci := 4) (v := .int (O9.1 0)) (C := RX4) (T := TX4) (N := 5) hx hb hts iw_X4 hown hK hP 1 rfl rfl 0 (by decide) (hts _ w_fl_X4_21) (fun _ h9 => h9) rfl dX4_add_60 ?_
            refine lv_iconst (v := 1) hx hb dX4_add_63 (by decide) ?_
            refine lv_iadd hx hb dX4_add_64 ?_
            refine va_put (D := D) (ci := 4) (v := .int ((O9.1 0) + 1)) (ty := .int) (C := RX4) (T := TX4) (N := 5) hx hb hts iw_X4 tyX4 tyX4_ok nmX4 hown hK hP (of_D cs O9 hd) hS 1 rfl rfl 0 (by decide) (hts _ w_fl_X4_21) (fun _ h9 => h9) rfl (by decide +kernel) rfl rfl (Nat.le_of_ble_eq_true rfl) dX4_add_65 (fun H locs hP _ hS => ?_)
            have hP : va_P D vwC (ofW cs a (stS O9 0 ((O9.1 0) + 1))) H := hP
            refine lv_iload_n hx hb dX4_add_68 rfl (lv_at hl 2 rfl) ?_
            exact W.iret (v := (O.1 0)) hx hb hr (fun t ht hW => ⟨⟨(O.1 0), (stS O9 0 ((O9.1 0) + 1)), rfl, pair_eq hv, pw ht hP⟩, hS.F ht⟩) hS.2.2 dX4_add_69 (hlocks := hlocks)
          · have hv := (if_neg c37).symm.trans hv
            refine lv_aload_n hx hb dX4_add_40 rfl (lv_at hl 0 rfl) ?_
            refine va_get (D := D) (ci := 4) (v := .ref (a 7)) (C := RX4) (T := TX4) (N := 5) hx hb hts iw_X4 hown hK hP 1 rfl rfl 4 (by decide) (hts _ w_fl_X4_18) (fun _ h9 => h9) rfl dX4_add_41 ?_
            refine lv_iload_n hx hb dX4_add_44 rfl (lv_at hl 2 rfl) ?_
            refine lv_bipush (v := 12) hx hb dX4_add_45 (by decide) ?_
            refine lv_imul hx hb dX4_add_47 ?_
            refine lv_iload_n hx hb dX4_add_48 rfl (lv_at hl 3 rfl) ?_
            refine lv_iadd hx hb dX4_add_49 ?_
            refine lv_iconst (v := 0) hx hb dX4_add_50 (by decide) ?_
            refine va_iast (cA := cs 0) (n := 120) (f := (O9.2 7)) hx hb hK hP (of_D cs O9 hd) hS 7 0 rfl rfl (dr_in (vp_b rfl c6 c12) (vp_a rfl i0 c37)) dX4_add_51 (fun H locs hP _ hS => ?_)
            have hP : va_P D vwC (ofW cs a (stA O9 7 (upd (O9.2 7) (((O.1 0) * 12) + x3).toNatClampNeg 0))) H := hP
            refine lv_iinc (v := x3 + 1) (lv' := [(3, .int (x3 + 1)), (0, .ref (a 1)), (1, .int p1), (2, .int (O.1 0))]) hx hb dX4_add_52 hl (k := 3) rfl rfl (by decide) rfl (fun ls hl => ?_)
            refine lv_goto (tgt := 34) hx hb dX4_add_55 (by decide) ?_
            exact ih (x3 + 1) (stA O9 7 (upd (O9.2 7) (((O.1 0) * 12) + x3).toNatClampNeg 0)) (upM_s c37 hm) (nn_inc i0 c37) hv _ _ hP hS ls (lv_sub hl [1, 2, 3, 0] rfl)
      exact LOOP _ 0 (stA (stA O 5 (upd (O.2 5) (O.1 0).toNatClampNeg p1)) 6 (upd (O.2 6) (O.1 0).toNatClampNeg 0)) (Nat.lt_succ_self _) (by decide) hv _ _ hP hS ls (lv_sub hl [2, 3, 1, 0] rfl)
    · have hv := (if_neg c12).symm.trans hv
      refine lv_bipush (v := (-4)) hx hb dX4_add_15 (by decide) ?_
      exact W.iret (v := (-4)) hx hb hr (fun t ht hW => ⟨⟨(-4), O, rfl, pair_eq hv, pw ht hP⟩, hS.F ht⟩) hS.2.2 dX4_add_17 (hlocks := hlocks)
theorem hd_X4_drawAnew : yX4_drawAnew.cls ≠ "java/lang/invoke/MethodHandle" ∧ yX4_drawAnew.cls ≠ "java/lang/invoke/VarHandle" ∧ (parseMethodDescriptor yX4_drawAnew.desc).map (fun d => d.parameters.length) = some 2 := by decide +kernel
def LX4_drawAnew_21 (O : OF) (p1 : Int32) (p2 : Int32) : Nat → Int32 → OF → OF
  | 0 => fun _ _ => O
  | n + 1 => fun x3 O9 => (if 12 ≤ x3 then (sX4_markChecked (stS O9 1 ((O9.1 1) ||| (sX4_above O9 p1))) p1) else (if (sX7_isIn p2 x3) = true then (LX4_drawAnew_21 O p1 p2 n (x3 + 1) (stA O9 7 (upd (O9.2 7) ((p1 * 12) + x3).toNatClampNeg ((O9.2 6) p1.toNatClampNeg)))) else (LX4_drawAnew_21 O p1 p2 n (x3 + 1) O9)))
theorem LX4_drawAnew_21_eq (O : OF) (p1 : Int32) (p2 : Int32) (n : Nat) (x3 : Int32) (O9 : OF) : LX4_drawAnew_21 O p1 p2 (n + 1) x3 O9 = (if 12 ≤ x3 then (sX4_markChecked (stS O9 1 ((O9.1 1) ||| (sX4_above O9 p1))) p1) else (if (sX7_isIn p2 x3) = true then (LX4_drawAnew_21 O p1 p2 n (x3 + 1) (stA O9 7 (upd (O9.2 7) ((p1 * 12) + x3).toNatClampNeg ((O9.2 6) p1.toNatClampNeg)))) else (LX4_drawAnew_21 O p1 p2 n (x3 + 1) O9))) := rfl
def sX4_drawAnew (O : OF) (p1 : Int32) (p2 : Int32) : OF := (if (sX4_has O p1) = true then (LX4_drawAnew_21 O p1 p2 (upM 12 0 + 1) 0 (stA O 6 (upd (O.2 6) p1.toNatClampNeg (((O.2 6) p1.toNatClampNeg) + 1)))) else O)
set_option maxHeartbeats 4000000 in
set_option maxRecDepth 100000 in
theorem c_X4_drawAnew (l : Launch) (D : va_G) (cs : Nat → ClassId) (a : Nat → Nat) (O : OF) (p1 : Int32) (p2 : Int32) (hd : oD a) : Met l yX4_drawAnew (wc yX4_drawAnew cX4_drawAnew 4 none) ({ frames := 3, cells := 0, slots := 0, locals := 66 } : Room) (va_Pc [.ref (a 1), .int p1, .int p2] (PE D cs (ofW cs a O))) (va_Qv (fun u : OF => u = (sX4_drawAnew O p1 p2)) (fun u t => va_P D vwC (ofW cs a u) t.heap) (oA a)) 0 0 (oA a) := by
  obtain ⟨v, hv⟩ : ∃ v, sX4_drawAnew O p1 p2 = v := ⟨_, rfl⟩
  rw [hv]
  refine met_o (lv := [(0, .ref (a 1)), (1, .int p1), (2, .int p2)]) (by decide) (Nat.le_of_ble_eq_true rfl) rfl ?_
  intro p e s m args below meth c ls hx hb hr hml hts hown hlocks hin hP hE hl
  have hown : s.vm.findClass RX4 = some m.cls := hown
  have hK := hE.1
  have hP : va_P D vwC (ofW cs a O) s.heap := hP
  have hS : va_S (oA a) s.heap s.heap [] := va_S.rf
  unfold sX4_drawAnew at hv
  refine lv_aload_n hx hb dX4_drawAnew_0 rfl (lv_at hl 0 rfl) ?_
  refine lv_iload_n hx hb dX4_drawAnew_1 rfl (lv_at hl 1 rfl) ?_
  refine ro_i (b2i (sX4_has O p1)) (run_c (va_runV (As := [.int p1]) (rest := []) ⟨hx, hb, hml, hown, hts⟩ (c_X4_has l D cs a O p1) (cwV 1 hts (good_V w_ml_X4_34 w_im_X4_has w_se_X4_has w_in_X4 w_co_X4_has) rfl rfl rfl ⟨rfl, hd_X4_has⟩ ⟨Nat.le_of_ble_eq_true rfl, Nat.le_of_ble_eq_true rfl⟩) (pe_W (C := RX4) (T := TX4) (N := 5) (ci := 4) (q0 := 1) hP hE rfl rfl) rfl rfl hl.1 rfl (lv_room (Nat.le_of_ble_eq_true rfl)) dX4_drawAnew_2 ⟨Nat.zero_le _, Nat.zero_le _⟩)) ?_
  refine lv_if_ne (tgt := 9) hx hb dX4_drawAnew_5 (by decide) (fun c5 => ?_) (fun c5 => ?_)
  · have c5 := b2i_t c5
    have hv := (if_pos c5).symm.trans hv
    refine lv_aload_n hx hb dX4_drawAnew_9 rfl (lv_at hl 0 rfl) ?_
    refine va_get (D := D) (ci := 4) (v := .ref (a 6)) (C := RX4) (T := TX4) (N := 5) hx hb hts iw_X4 hown hK hP 1 rfl rfl 3 (by decide) (hts _ w_fl_X4_15) (fun _ h9 => h9) rfl dX4_drawAnew_10 ?_
    refine lv_iload_n hx hb dX4_drawAnew_13 rfl (lv_at hl 1 rfl) ?_
    refine lv_dup2_11 hx hb dX4_drawAnew_14 rfl rfl ?_
    refine va_iald (cA := cs 0) (n := 10) (f := (O.2 6)) hx hb hK hP 6 0 rfl rfl (by first | exact X4_in (by assumption) | exact in_X7_isSetting (by assumption)) dX4_drawAnew_15 ?_
    refine lv_iconst (v := 1) hx hb dX4_drawAnew_16 (by decide) ?_
    refine lv_iadd hx hb dX4_drawAnew_17 ?_
    refine va_iast (cA := cs 0) (n := 10) (f := (O.2 6)) hx hb hK hP (of_D cs O hd) hS 6 0 rfl rfl (by first | exact X4_in (by assumption) | exact in_X7_isSetting (by assumption)) dX4_drawAnew_18 (fun H locs hP _ hS => ?_)
    have hP : va_P D vwC (ofW cs a (stA O 6 (upd (O.2 6) p1.toNatClampNeg (((O.2 6) p1.toNatClampNeg) + 1)))) H := hP
    refine lv_iconst (v := 0) hx hb dX4_drawAnew_19 (by decide) ?_
    refine lv_istore_n (lv' := [(3, .int 0), (0, .ref (a 1)), (1, .int p1), (2, .int p2)]) hx hb dX4_drawAnew_20 rfl hl (by decide) rfl (fun ls hl => ?_)
    have LOOP : ∀ (n : Nat) (x3 : Int32) (O9 : OF), upM 12 x3 < n → (¬ x3 < 0) → LX4_drawAnew_21 O p1 p2 n x3 O9 = v → ∀ (H : Heap) (locs : List Loc), va_P D vwC (ofW cs a O9) H → va_S (oA a) s.heap H locs → ∀ ls : Array Slot, lv_has ls 4 [(0, .ref (a 1)), (1, .int p1), (2, .int p2), (3, .int x3)] → W p l e ({ frames := 3, cells := 0, slots := 0, locals := 66 } : Room) s m args below meth c H locs 0 0 (MQ below (va_Qv (fun u : OF => u = v) (fun u t => va_P D vwC (ofW cs a u) t.heap) (oA a)) args s 0 0 (oA a)) (F0 m 21 ls []) := by
      clear hv
      intro n
      induction n with
      | zero => intro x3 O9 hm; exact absurd hm (Nat.not_lt_zero _)
      | succ n ih =>
        intro x3 O9 hm i0 hv H locs hP hS ls hl
        have hv := (LX4_drawAnew_21_eq O p1 p2 n x3 O9).symm.trans hv
        refine lv_iload_n hx hb dX4_drawAnew_21 rfl (lv_at hl 3 rfl) ?_
        refine lv_bipush (v := 12) hx hb dX4_drawAnew_22 (by decide) ?_
        refine lv_icmp_ge (tgt := 58) hx hb dX4_drawAnew_24 (by decide) (fun c24 => ?_) (fun c24 => ?_)
        · have hv := (if_pos c24).symm.trans hv
          refine lv_aload_n hx hb dX4_drawAnew_58 rfl (lv_at hl 0 rfl) ?_
          refine lv_dup hx hb dX4_drawAnew_59 rfl ?_
          refine va_get (D := D) (ci := 4) (v := .int (O9.1 1)) (C := RX4) (T := TX4) (N := 5) hx hb hts iw_X4 hown hK hP 1 rfl rfl 1 (by decide) (hts _ w_fl_X4_25) (fun _ h9 => h9) rfl dX4_drawAnew_60 ?_
          refine lv_aload_n hx hb dX4_drawAnew_63 rfl (lv_at hl 0 rfl) ?_
          refine lv_iload_n hx hb dX4_drawAnew_64 rfl (lv_at hl 1 rfl) ?_
          refine ro_i (sX4_above O9 p1) (run_c (va_runV (As := [.int p1]) (rest := [.int (O9.1 1), .ref (a 1)]) ⟨hx, hb, hml, hown, hts⟩ (c_X4_above l D cs a O9 p1) (cwV 1 hts (good_V w_ml_X4_51 w_im_X4_above w_se_X4_above w_in_X4 w_co_X4_above) rfl rfl rfl ⟨rfl, hd_X4_above⟩ ⟨Nat.le_of_ble_eq_true rfl, Nat.le_of_ble_eq_true rfl⟩) (pe_W (C := RX4) (T := TX4) (N := 5) (ci := 4) (q0 := 1) hP hE rfl rfl) rfl rfl hl.1 rfl (lv_room (Nat.le_of_ble_eq_true rfl)) dX4_drawAnew_65 ⟨Nat.zero_le _, Nat.zero_le _⟩)) ?_
          refine lv_ior hx hb dX4_drawAnew_68 ?_
          refine va_put (D := D) (ci := 4) (v := .int ((O9.1 1) ||| (sX4_above O9 p1))) (ty := .int) (C := RX4) (T := TX4) (N := 5) hx hb hts iw_X4 tyX4 tyX4_ok nmX4 hown hK hP (of_D cs O9 hd) hS 1 rfl rfl 1 (by decide) (hts _ w_fl_X4_25) (fun _ h9 => h9) rfl (by decide +kernel) rfl rfl (Nat.le_of_ble_eq_true rfl) dX4_drawAnew_69 (fun H locs hP _ hS => ?_)
          have hP : va_P D vwC (ofW cs a (stS O9 1 ((O9.1 1) ||| (sX4_above O9 p1)))) H := hP
          refine lv_aload_n hx hb dX4_drawAnew_72 rfl (lv_at hl 0 rfl) ?_
          refine lv_iload_n hx hb dX4_drawAnew_73 rfl (lv_at hl 1 rfl) ?_
          refine w_v (sX4_markChecked (stS O9 1 ((O9.1 1) ||| (sX4_above O9 p1))) p1) (va_runV (As := [.int p1]) (rest := []) ⟨hx, hb, hml, hown, hts⟩ (c_X4_markChecked l D cs a (stS O9 1 ((O9.1 1) ||| (sX4_above O9 p1))) p1 hd) (cwV 1 hts (good_V w_ml_X4_54 w_im_X4_markChecked w_se_X4_markChecked w_in_X4 w_co_X4_markChecked) rfl rfl rfl ⟨rfl, hd_X4_markChecked⟩ ⟨Nat.le_of_ble_eq_true rfl, Nat.le_of_ble_eq_true rfl⟩) (pe_W (C := RX4) (T := TX4) (N := 5) (ci := 4) (q0 := 1) hP hE rfl rfl) rfl rfl hl.1 rfl (lv_room (Nat.le_of_ble_eq_true rfl)) dX4_drawAnew_74 ⟨Nat.zero_le _, Nat.zero_le _⟩) hS (fun _ _ h => h) (fun _ h => h) (fun t locs hB hz hk hS => ?_)
          have hP : va_P D vwC (ofW cs a (sX4_markChecked (stS O9 1 ((O9.1 1) ||| (sX4_above O9 p1))) p1)) t.heap := hB
          exact W.vret hx hb hr (fun t ht hW => ⟨⟨(sX4_markChecked (stS O9 1 ((O9.1 1) ||| (sX4_above O9 p1))) p1), rfl, hv, pw ht hP⟩, hS.F ht⟩) hS.2.2 dX4_drawAnew_77 (hlocks := hlocks)
        · have hv := (if_neg c24).symm.trans hv
          refine lv_iload_n hx hb dX4_drawAnew_27 rfl (lv_at hl 2 rfl) ?_
          refine lv_iload_n hx hb dX4_drawAnew_28 rfl (lv_at hl 3 rfl) ?_
          refine ro_i (b2i (sX7_isIn p2 x3)) (run_c (va_runSN (As := [.int p2, .int x3]) (rest := []) ⟨hx, hb, hml, hown, hts⟩ (c_X7_isIn l D cs p2 x3) ⟨va_cnB 2 hts (good_code w_co_X7_isIn) rfl rfl rfl (hE.2.1 ("TrueSheets$Sheets", 41, yX7_isIn) (List.mem_of_getElem? (i := 2) rfl)) (hts _ w_in_X7) hd_X7_isIn ⟨Nat.le_of_ble_eq_true rfl, Nat.le_of_ble_eq_true rfl⟩, hts _ w_st_X7_isIn, trivial⟩ (pe_S (p_nil D _) hE) rfl rfl hl.1 rfl (lv_room (Nat.le_of_ble_eq_true rfl)) dX4_drawAnew_29 ⟨Nat.zero_le _, Nat.zero_le _⟩)) ?_
          refine lv_if_eq (tgt := 52) hx hb dX4_drawAnew_32 (by decide) (fun c32 => ?_) (fun c32 => ?_)
          · have c32 := b2i_f c32
            have hv := (if_neg c32).symm.trans hv
            refine lv_iinc (v := x3 + 1) (lv' := [(3, .int (x3 + 1)), (0, .ref (a 1)), (1, .int p1), (2, .int p2)]) hx hb dX4_drawAnew_52 hl (k := 3) rfl rfl (by decide) rfl (fun ls hl => ?_)
            refine lv_goto (tgt := 21) hx hb dX4_drawAnew_55 (by decide) ?_
            exact ih (x3 + 1) O9 (upM_s c24 hm) (nn_inc i0 c24) hv _ _ hP hS ls (lv_sub hl [1, 2, 3, 0] rfl)
          · have c32 := b2i_t c32
            have hv := (if_pos c32).symm.trans hv
            refine lv_aload_n hx hb dX4_drawAnew_35 rfl (lv_at hl 0 rfl) ?_
            refine va_get (D := D) (ci := 4) (v := .ref (a 7)) (C := RX4) (T := TX4) (N := 5) hx hb hts iw_X4 hown hK hP 1 rfl rfl 4 (by decide) (hts _ w_fl_X4_18) (fun _ h9 => h9) rfl dX4_drawAnew_36 ?_
            refine lv_iload_n hx hb dX4_drawAnew_39 rfl (lv_at hl 1 rfl) ?_
            refine lv_bipush (v := 12) hx hb dX4_drawAnew_40 (by decide) ?_
            refine lv_imul hx hb dX4_drawAnew_42 ?_
            refine lv_iload_n hx hb dX4_drawAnew_43 rfl (lv_at hl 3 rfl) ?_
            refine lv_iadd hx hb dX4_drawAnew_44 ?_
            refine lv_aload_n hx hb dX4_drawAnew_45 rfl (lv_at hl 0 rfl) ?_
            refine va_get (D := D) (ci := 4) (v := .ref (a 6)) (C := RX4) (T := TX4) (N := 5) hx hb hts iw_X4 hown hK hP 1 rfl rfl 3 (by decide) (hts _ w_fl_X4_15) (fun _ h9 => h9) rfl dX4_drawAnew_46 ?_
            refine lv_iload_n hx hb dX4_drawAnew_49 rfl (lv_at hl 1 rfl) ?_
            refine va_iald (cA := cs 0) (n := 10) (f := (O9.2 6)) hx hb hK hP 6 0 rfl rfl (by first | exact X4_in (by assumption) | exact in_X7_isSetting (by assumption)) dX4_drawAnew_50 ?_
            refine va_iast (cA := cs 0) (n := 120) (f := (O9.2 7)) hx hb hK hP (of_D cs O9 hd) hS 7 0 rfl rfl (dr_in (X4_in c5) (vp_a rfl i0 c24)) dX4_drawAnew_51 (fun H locs hP _ hS => ?_)
            have hP : va_P D vwC (ofW cs a (stA O9 7 (upd (O9.2 7) ((p1 * 12) + x3).toNatClampNeg ((O9.2 6) p1.toNatClampNeg)))) H := hP
            refine lv_iinc (v := x3 + 1) (lv' := [(3, .int (x3 + 1)), (0, .ref (a 1)), (1, .int p1), (2, .int p2)]) hx hb dX4_drawAnew_52 hl (k := 3) rfl rfl (by decide) rfl (fun ls hl => ?_)
            refine lv_goto (tgt := 21) hx hb dX4_drawAnew_55 (by decide) ?_
            exact ih (x3 + 1) (stA O9 7 (upd (O9.2 7) ((p1 * 12) + x3).toNatClampNeg ((O9.2 6) p1.toNatClampNeg))) (upM_s c24 hm) (nn_inc i0 c24) hv _ _ hP hS ls (lv_sub hl [1, 2, 3, 0] rfl)
    exact LOOP _ 0 (stA O 6 (upd (O.2 6) p1.toNatClampNeg (((O.2 6) p1.toNatClampNeg) + 1))) (Nat.lt_succ_self _) (by decide) hv _ _ hP hS ls (lv_sub hl [1, 2, 3, 0] rfl)
  · have c5 := b2i_f c5
    have hv := (if_neg c5).symm.trans hv
    exact W.vret hx hb hr (fun t ht hW => ⟨⟨O, rfl, hv, pw ht hP⟩, hS.F ht⟩) hS.2.2 dX4_drawAnew_8 (hlocks := hlocks)
theorem hd_X6_clear : yX6_clear.cls ≠ "java/lang/invoke/MethodHandle" ∧ yX6_clear.cls ≠ "java/lang/invoke/VarHandle" ∧ (parseMethodDescriptor yX6_clear.desc).map (fun d => d.parameters.length) = some 0 := by decide +kernel
def sX6_clear (O : OF) : OF := (stS O 4 0)
set_option maxHeartbeats 4000000 in
set_option maxRecDepth 100000 in
theorem c_X6_clear (l : Launch) (D : va_G) (cs : Nat → ClassId) (a : Nat → Nat) (O : OF) (hd : oD a) : Met l yX6_clear (wc yX6_clear cX6_clear 1 none) ({ frames := 0, cells := 0, slots := 0, locals := 0 } : Room) (va_Pc [.ref (a 3)] (PE D cs (ofW cs a O))) (va_Qv (fun u : OF => u = (sX6_clear O)) (fun u t => va_P D vwC (ofW cs a u) t.heap) (oA a)) 0 0 (oA a) := by
  obtain ⟨v, hv⟩ : ∃ v, sX6_clear O = v := ⟨_, rfl⟩
  rw [hv]
  refine met_o (lv := [(0, .ref (a 3))]) (by decide) (Nat.le_of_ble_eq_true rfl) rfl ?_
  intro p e s m args below meth c ls hx hb hr hml hts hown hlocks hin hP hE hl
  have hown : s.vm.findClass RX6 = some m.cls := hown
  have hK := hE.1
  have hP : va_P D vwC (ofW cs a O) s.heap := hP
  have hS : va_S (oA a) s.heap s.heap [] := va_S.rf
  unfold sX6_clear at hv
  refine lv_aload_n hx hb dX6_clear_0 rfl (lv_at hl 0 rfl) ?_
  refine lv_iconst (v := 0) hx hb dX6_clear_1 (by decide) ?_
  refine va_put (D := D) (ci := 6) (v := .int 0) (ty := .int) (C := RX6) (T := TX6) (N := 5) hx hb hts iw_X6 tyX6 tyX6_ok nmX6 hown hK hP (of_D cs O hd) hS 3 rfl rfl 0 (by decide) (hts _ w_fl_X6_24) (fun _ h9 => h9) rfl (by decide +kernel) rfl rfl (Nat.le_of_ble_eq_true rfl) dX6_clear_2 (fun H locs hP _ hS => ?_)
  have hP : va_P D vwC (ofW cs a (stS O 4 0)) H := hP
  exact W.vret hx hb hr (fun t ht hW => ⟨⟨(stS O 4 0), rfl, hv, pw ht hP⟩, hS.F ht⟩) hS.2.2 dX6_clear_5 (hlocks := hlocks)
theorem hd_X6_add : yX6_add.cls ≠ "java/lang/invoke/MethodHandle" ∧ yX6_add.cls ≠ "java/lang/invoke/VarHandle" ∧ (parseMethodDescriptor yX6_add.desc).map (fun d => d.parameters.length) = some 4 := by decide +kernel
def sX6_add (O : OF) (p1 : Int32) (p2 : Int32) (p3 : Int32) (p4 : Int32) : Int32 × OF := (if (O.1 4) < 0 then ((-4), O) else (if (O.1 4) < 30 then ((O.1 4), (stS (stA (stA (stA (stA O 14 (upd (O.2 14) (O.1 4).toNatClampNeg p1)) 15 (upd (O.2 15) (O.1 4).toNatClampNeg p2)) 16 (upd (O.2 16) (O.1 4).toNatClampNeg p3)) 17 (upd (O.2 17) (O.1 4).toNatClampNeg p4)) 4 ((O.1 4) + 1))) else ((-4), O)))
set_option maxHeartbeats 4000000 in
set_option maxRecDepth 100000 in
theorem c_X6_add (l : Launch) (D : va_G) (cs : Nat → ClassId) (a : Nat → Nat) (O : OF) (p1 : Int32) (p2 : Int32) (p3 : Int32) (p4 : Int32) (hd : oD a) : Met l yX6_add (wc yX6_add cX6_add 6 (some .int)) ({ frames := 0, cells := 0, slots := 0, locals := 0 } : Room) (va_Pc [.ref (a 3), .int p1, .int p2, .int p3, .int p4] (PE D cs (ofW cs a O))) (va_Qi (fun (r9 : Int32) (u : OF) => r9 = (sX6_add O p1 p2 p3 p4).1 ∧ u = (sX6_add O p1 p2 p3 p4).2) (fun u t => va_P D vwC (ofW cs a u) t.heap) (oA a)) 0 0 (oA a) := by
  obtain ⟨v, hv⟩ : ∃ v, sX6_add O p1 p2 p3 p4 = v := ⟨_, rfl⟩
  rw [hv]
  refine met_o (lv := [(0, .ref (a 3)), (1, .int p1), (2, .int p2), (3, .int p3), (4, .int p4)]) (by decide) (Nat.le_of_ble_eq_true rfl) rfl ?_
  intro p e s m args below meth c ls hx hb hr hml hts hown hlocks hin hP hE hl
  have hown : s.vm.findClass RX6 = some m.cls := hown
  have hK := hE.1
  have hP : va_P D vwC (ofW cs a O) s.heap := hP
  have hS : va_S (oA a) s.heap s.heap [] := va_S.rf
  unfold sX6_add at hv
  refine lv_aload_n hx hb dX6_add_0 rfl (lv_at hl 0 rfl) ?_
  refine va_get (D := D) (ci := 6) (v := .int (O.1 4)) (C := RX6) (T := TX6) (N := 5) hx hb hts iw_X6 hown hK hP 3 rfl rfl 0 (by decide) (hts _ w_fl_X6_24) (fun _ h9 => h9) rfl dX6_add_1 ?_
  refine lv_istore (lv' := [(5, .int (O.1 4)), (0, .ref (a 3)), (1, .int p1), (2, .int p2), (3, .int p3), (4, .int p4)]) hx hb dX6_add_4 hl (by decide) rfl (fun ls hl => ?_)
  refine lv_iload hx hb dX6_add_6 (lv_at hl 0 rfl) ?_
  refine lv_if_lt (tgt := 18) hx hb dX6_add_8 (by decide) (fun c8 => ?_) (fun c8 => ?_)
  · have hv := (if_pos c8).symm.trans hv
    refine lv_bipush (v := (-4)) hx hb dX6_add_18 (by decide) ?_
    exact W.iret (v := (-4)) hx hb hr (fun t ht hW => ⟨⟨(-4), O, rfl, pair_eq hv, pw ht hP⟩, hS.F ht⟩) hS.2.2 dX6_add_20 (hlocks := hlocks)
  · have hv := (if_neg c8).symm.trans hv
    refine lv_iload hx hb dX6_add_11 (lv_at hl 0 rfl) ?_
    refine lv_bipush (v := 30) hx hb dX6_add_13 (by decide) ?_
    refine lv_icmp_lt (tgt := 21) hx hb dX6_add_15 (by decide) (fun c15 => ?_) (fun c15 => ?_)
    · have hv := (if_pos c15).symm.trans hv
      refine lv_aload_n hx hb dX6_add_21 rfl (lv_at hl 1 rfl) ?_
      refine va_get (D := D) (ci := 6) (v := .ref (a 14)) (C := RX6) (T := TX6) (N := 5) hx hb hts iw_X6 hown hK hP 3 rfl rfl 1 (by decide) (hts _ w_fl_X6_9) (fun _ h9 => h9) rfl dX6_add_22 ?_
      refine lv_iload hx hb dX6_add_25 (lv_at hl 0 rfl) ?_
      refine lv_iload_n hx hb dX6_add_27 rfl (lv_at hl 2 rfl) ?_
      refine va_iast (cA := cs 0) (n := 30) (f := (O.2 14)) hx hb hK hP (of_D cs O hd) hS 14 0 rfl rfl (vp_b rfl c8 c15) dX6_add_28 (fun H locs hP _ hS => ?_)
      have hP : va_P D vwC (ofW cs a (stA O 14 (upd (O.2 14) (O.1 4).toNatClampNeg p1))) H := hP
      refine lv_aload_n hx hb dX6_add_29 rfl (lv_at hl 1 rfl) ?_
      refine va_get (D := D) (ci := 6) (v := .ref (a 15)) (C := RX6) (T := TX6) (N := 5) hx hb hts iw_X6 hown hK hP 3 rfl rfl 2 (by decide) (hts _ w_fl_X6_15) (fun _ h9 => h9) rfl dX6_add_30 ?_
      refine lv_iload hx hb dX6_add_33 (lv_at hl 0 rfl) ?_
      refine lv_iload_n hx hb dX6_add_35 rfl (lv_at hl 3 rfl) ?_
      refine va_iast (cA := cs 0) (n := 30) (f := (O.2 15)) hx hb hK hP (of_D cs (stA O 14 (upd (O.2 14) (O.1 4).toNatClampNeg p1)) hd) hS 15 0 rfl rfl (vp_b rfl c8 c15) dX6_add_36 (fun H locs hP _ hS => ?_)
      have hP : va_P D vwC (ofW cs a (stA (stA O 14 (upd (O.2 14) (O.1 4).toNatClampNeg p1)) 15 (upd (O.2 15) (O.1 4).toNatClampNeg p2))) H := hP
      refine lv_aload_n hx hb dX6_add_37 rfl (lv_at hl 1 rfl) ?_
      refine va_get (D := D) (ci := 6) (v := .ref (a 16)) (C := RX6) (T := TX6) (N := 5) hx hb hts iw_X6 hown hK hP 3 rfl rfl 3 (by decide) (hts _ w_fl_X6_18) (fun _ h9 => h9) rfl dX6_add_38 ?_
      refine lv_iload hx hb dX6_add_41 (lv_at hl 0 rfl) ?_
      refine lv_iload_n hx hb dX6_add_43 rfl (lv_at hl 4 rfl) ?_
      refine va_iast (cA := cs 0) (n := 30) (f := (O.2 16)) hx hb hK hP (of_D cs (stA (stA O 14 (upd (O.2 14) (O.1 4).toNatClampNeg p1)) 15 (upd (O.2 15) (O.1 4).toNatClampNeg p2)) hd) hS 16 0 rfl rfl (vp_b rfl c8 c15) dX6_add_44 (fun H locs hP _ hS => ?_)
      have hP : va_P D vwC (ofW cs a (stA (stA (stA O 14 (upd (O.2 14) (O.1 4).toNatClampNeg p1)) 15 (upd (O.2 15) (O.1 4).toNatClampNeg p2)) 16 (upd (O.2 16) (O.1 4).toNatClampNeg p3))) H := hP
      refine lv_aload_n hx hb dX6_add_45 rfl (lv_at hl 1 rfl) ?_
      refine va_get (D := D) (ci := 6) (v := .ref (a 17)) (C := RX6) (T := TX6) (N := 5) hx hb hts iw_X6 hown hK hP 3 rfl rfl 4 (by decide) (hts _ w_fl_X6_21) (fun _ h9 => h9) rfl dX6_add_46 ?_
      refine lv_iload hx hb dX6_add_49 (lv_at hl 0 rfl) ?_
      refine lv_iload hx hb dX6_add_51 (lv_at hl 5 rfl) ?_
      refine va_iast (cA := cs 0) (n := 30) (f := (O.2 17)) hx hb hK hP (of_D cs (stA (stA (stA O 14 (upd (O.2 14) (O.1 4).toNatClampNeg p1)) 15 (upd (O.2 15) (O.1 4).toNatClampNeg p2)) 16 (upd (O.2 16) (O.1 4).toNatClampNeg p3)) hd) hS 17 0 rfl rfl (vp_b rfl c8 c15) dX6_add_53 (fun H locs hP _ hS => ?_)
      have hP : va_P D vwC (ofW cs a (stA (stA (stA (stA O 14 (upd (O.2 14) (O.1 4).toNatClampNeg p1)) 15 (upd (O.2 15) (O.1 4).toNatClampNeg p2)) 16 (upd (O.2 16) (O.1 4).toNatClampNeg p3)) 17 (upd (O.2 17) (O.1 4).toNatClampNeg p4))) H := hP
      refine lv_aload_n hx hb dX6_add_54 rfl (lv_at hl 1 rfl) ?_
      refine lv_dup hx hb dX6_add_55 rfl ?_
      refine va_get (D := D) (ci := 6) (v := .int (O.1 4)) (C := RX6) (T := TX6) (N := 5) hx hb hts iw_X6 hown hK hP 3 rfl rfl 0 (by decide) (hts _ w_fl_X6_24) (fun _ h9 => h9) rfl dX6_add_56 ?_
      refine lv_iconst (v := 1) hx hb dX6_add_59 (by decide) ?_
      refine lv_iadd hx hb dX6_add_60 ?_
      refine va_put (D := D) (ci := 6) (v := .int ((O.1 4) + 1)) (ty := .int) (C := RX6) (T := TX6) (N := 5) hx hb hts iw_X6 tyX6 tyX6_ok nmX6 hown hK hP (of_D cs (stA (stA (stA (stA O 14 (upd (O.2 14) (O.1 4).toNatClampNeg p1)) 15 (upd (O.2 15) (O.1 4).toNatClampNeg p2)) 16 (upd (O.2 16) (O.1 4).toNatClampNeg p3)) 17 (upd (O.2 17) (O.1 4).toNatClampNeg p4)) hd) hS 3 rfl rfl 0 (by decide) (hts _ w_fl_X6_24) (fun _ h9 => h9) rfl (by decide +kernel) rfl rfl (Nat.le_of_ble_eq_true rfl) dX6_add_61 (fun H locs hP _ hS => ?_)
      have hP : va_P D vwC (ofW cs a (stS (stA (stA (stA (stA O 14 (upd (O.2 14) (O.1 4).toNatClampNeg p1)) 15 (upd (O.2 15) (O.1 4).toNatClampNeg p2)) 16 (upd (O.2 16) (O.1 4).toNatClampNeg p3)) 17 (upd (O.2 17) (O.1 4).toNatClampNeg p4)) 4 ((O.1 4) + 1))) H := hP
      refine lv_iload hx hb dX6_add_64 (lv_at hl 0 rfl) ?_
      exact W.iret (v := (O.1 4)) hx hb hr (fun t ht hW => ⟨⟨(O.1 4), (stS (stA (stA (stA (stA O 14 (upd (O.2 14) (O.1 4).toNatClampNeg p1)) 15 (upd (O.2 15) (O.1 4).toNatClampNeg p2)) 16 (upd (O.2 16) (O.1 4).toNatClampNeg p3)) 17 (upd (O.2 17) (O.1 4).toNatClampNeg p4)) 4 ((O.1 4) + 1)), rfl, pair_eq hv, pw ht hP⟩, hS.F ht⟩) hS.2.2 dX6_add_66 (hlocks := hlocks)
    · have hv := (if_neg c15).symm.trans hv
      refine lv_bipush (v := (-4)) hx hb dX6_add_18 (by decide) ?_
      exact W.iret (v := (-4)) hx hb hr (fun t ht hW => ⟨⟨(-4), O, rfl, pair_eq hv, pw ht hP⟩, hS.F ht⟩) hS.2.2 dX6_add_20 (hlocks := hlocks)
theorem hd_X6_putRevision : yX6_putRevision.cls ≠ "java/lang/invoke/MethodHandle" ∧ yX6_putRevision.cls ≠ "java/lang/invoke/VarHandle" ∧ (parseMethodDescriptor yX6_putRevision.desc).map (fun d => d.parameters.length) = some 2 := by decide +kernel
def sX6_putRevision (O : OF) (p1 : Int32) (p2 : Int32) : OF := (if (sX6_has O p1) = true then (stA O 17 (upd (O.2 17) p1.toNatClampNeg p2)) else O)
set_option maxHeartbeats 4000000 in
set_option maxRecDepth 100000 in
theorem c_X6_putRevision (l : Launch) (D : va_G) (cs : Nat → ClassId) (a : Nat → Nat) (O : OF) (p1 : Int32) (p2 : Int32) (hd : oD a) : Met l yX6_putRevision (wc yX6_putRevision cX6_putRevision 3 none) ({ frames := 1, cells := 0, slots := 0, locals := 21 } : Room) (va_Pc [.ref (a 3), .int p1, .int p2] (PE D cs (ofW cs a O))) (va_Qv (fun u : OF => u = (sX6_putRevision O p1 p2)) (fun u t => va_P D vwC (ofW cs a u) t.heap) (oA a)) 0 0 (oA a) := by
  obtain ⟨v, hv⟩ : ∃ v, sX6_putRevision O p1 p2 = v := ⟨_, rfl⟩
  rw [hv]
  refine met_o (lv := [(0, .ref (a 3)), (1, .int p1), (2, .int p2)]) (by decide) (Nat.le_of_ble_eq_true rfl) rfl ?_
  intro p e s m args below meth c ls hx hb hr hml hts hown hlocks hin hP hE hl
  have hown : s.vm.findClass RX6 = some m.cls := hown
  have hK := hE.1
  have hP : va_P D vwC (ofW cs a O) s.heap := hP
  have hS : va_S (oA a) s.heap s.heap [] := va_S.rf
  unfold sX6_putRevision at hv
  refine lv_aload_n hx hb dX6_putRevision_0 rfl (lv_at hl 0 rfl) ?_
  refine lv_iload_n hx hb dX6_putRevision_1 rfl (lv_at hl 1 rfl) ?_
  refine ro_i (b2i (sX6_has O p1)) (run_c (va_runV (As := [.int p1]) (rest := []) ⟨hx, hb, hml, hown, hts⟩ (c_X6_has l D cs a O p1) (cwV 1 hts (good_V w_ml_X6_34 w_im_X6_has w_se_X6_has w_in_X6 w_co_X6_has) rfl rfl rfl ⟨rfl, hd_X6_has⟩ ⟨Nat.le_of_ble_eq_true rfl, Nat.le_of_ble_eq_true rfl⟩) (pe_W (C := RX6) (T := TX6) (N := 5) (ci := 6) (q0 := 3) hP hE rfl rfl) rfl rfl hl.1 rfl (lv_room (Nat.le_of_ble_eq_true rfl)) dX6_putRevision_2 ⟨Nat.zero_le _, Nat.zero_le _⟩)) ?_
  refine lv_if_eq (tgt := 15) hx hb dX6_putRevision_5 (by decide) (fun c5 => ?_) (fun c5 => ?_)
  · have c5 := b2i_f c5
    have hv := (if_neg c5).symm.trans hv
    exact W.vret hx hb hr (fun t ht hW => ⟨⟨O, rfl, hv, pw ht hP⟩, hS.F ht⟩) hS.2.2 dX6_putRevision_15 (hlocks := hlocks)
  · have c5 := b2i_t c5
    have hv := (if_pos c5).symm.trans hv
    refine lv_aload_n hx hb dX6_putRevision_8 rfl (lv_at hl 0 rfl) ?_
    refine va_get (D := D) (ci := 6) (v := .ref (a 17)) (C := RX6) (T := TX6) (N := 5) hx hb hts iw_X6 hown hK hP 3 rfl rfl 4 (by decide) (hts _ w_fl_X6_21) (fun _ h9 => h9) rfl dX6_putRevision_9 ?_
    refine lv_iload_n hx hb dX6_putRevision_12 rfl (lv_at hl 1 rfl) ?_
    refine lv_iload_n hx hb dX6_putRevision_13 rfl (lv_at hl 2 rfl) ?_
    refine va_iast (cA := cs 0) (n := 30) (f := (O.2 17)) hx hb hK hP (of_D cs O hd) hS 17 0 rfl rfl (by first | exact X6_in (by assumption) | exact in_X7_isSetting (by assumption)) dX6_putRevision_14 (fun H locs hP _ hS => ?_)
    have hP : va_P D vwC (ofW cs a (stA O 17 (upd (O.2 17) p1.toNatClampNeg p2))) H := hP
    exact W.vret hx hb hr (fun t ht hW => ⟨⟨(stA O 17 (upd (O.2 17) p1.toNatClampNeg p2)), rfl, hv, pw ht hP⟩, hS.F ht⟩) hS.2.2 dX6_putRevision_15 (hlocks := hlocks)
