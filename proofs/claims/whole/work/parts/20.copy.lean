theorem hd_X4_copyFrom : yX4_copyFrom.cls ≠ "java/lang/invoke/MethodHandle" ∧ yX4_copyFrom.cls ≠ "java/lang/invoke/VarHandle" ∧ (parseMethodDescriptor yX4_copyFrom.desc).map (fun d => d.parameters.length) = some 1 := by decide +kernel
def sX4_copyFrom (O P : OF) : OF := (stA (stA (stA (stS (stS O 0 (P.1 0)) 1 (P.1 1)) 5 (va_cpy (P.2 5) (O.2 5) 0 0 10)) 6 (va_cpy (P.2 6) (O.2 6) 0 0 10)) 7 (va_cpy (P.2 7) (O.2 7) 0 0 120))
set_option maxHeartbeats 4000000 in
set_option maxRecDepth 100000 in
theorem c_X4_copyFrom (l : Launch) (D : va_G) (cs : Nat → ClassId) (a b : Nat → Nat) (O P : OF) (hd : oD2 a b) : Met l yX4_copyFrom (wc yX4_copyFrom cX4_copyFrom 2 none) ({ frames := 1, cells := 0, slots := 0, locals := 40 } : Room) (va_Pc [.ref (a 1), .ref (b 1)] (PE D cs ((ofW cs a O) ++ (ofW cs b P)))) (va_Qv (fun u : OF => u = (sX4_copyFrom O P)) (fun u t => va_P D vwC ((ofW cs a u) ++ (ofW cs b P)) t.heap) (oA2 a b)) 0 0 (oA2 a b) := by
  obtain ⟨v, hv⟩ : ∃ v, sX4_copyFrom O P = v := ⟨_, rfl⟩
  rw [hv]
  refine met_o (lv := [(0, .ref (a 1)), (1, .ref (b 1))]) (by decide) (Nat.le_of_ble_eq_true rfl) rfl ?_
  intro p e s m args below meth c ls hx hb hr hml hts hown hlocks hin hP hE hl
  have hown : s.vm.findClass RX4 = some m.cls := hown
  have hK := hE.1
  have hP : va_P D vwC ((ofW cs a O) ++ (ofW cs b P)) s.heap := hP
  have hS : va_S (oA2 a b) s.heap s.heap [] := va_S.rf
  unfold sX4_copyFrom at hv
  refine lv_aload_n hx hb dX4_copyFrom_0 rfl (lv_at hl 0 rfl) ?_
  refine lv_aload_n hx hb dX4_copyFrom_1 rfl (lv_at hl 1 rfl) ?_
  refine va_get (D := D) (ci := 4) (v := .int (P.1 0)) (C := RX4) (T := TX4) (N := 5) hx hb hts iw_X4 hown hK hP 19 rfl rfl 0 (by decide) (hts _ w_fl_X4_21) (fun _ h9 => h9) rfl dX4_copyFrom_2 ?_
  refine va_put (D := D) (ci := 4) (v := .int (P.1 0)) (ty := .int) (C := RX4) (T := TX4) (N := 5) hx hb hts iw_X4 tyX4 tyX4_ok nmX4 hown hK hP (of2_D cs O P hd) hS 1 rfl rfl 0 (by decide) (hts _ w_fl_X4_21) (fun _ h9 => h9) rfl (by decide +kernel) rfl rfl (Nat.le_of_ble_eq_true rfl) dX4_copyFrom_5 (fun H locs hP _ hS => ?_)
  have hP : va_P D vwC ((ofW cs a (stS O 0 (P.1 0))) ++ (ofW cs b P)) H := hP
  refine lv_aload_n hx hb dX4_copyFrom_8 rfl (lv_at hl 0 rfl) ?_
  refine lv_aload_n hx hb dX4_copyFrom_9 rfl (lv_at hl 1 rfl) ?_
  refine va_get (D := D) (ci := 4) (v := .int (P.1 1)) (C := RX4) (T := TX4) (N := 5) hx hb hts iw_X4 hown hK hP 19 rfl rfl 1 (by decide) (hts _ w_fl_X4_25) (fun _ h9 => h9) rfl dX4_copyFrom_10 ?_
  refine va_put (D := D) (ci := 4) (v := .int (P.1 1)) (ty := .int) (C := RX4) (T := TX4) (N := 5) hx hb hts iw_X4 tyX4 tyX4_ok nmX4 hown hK hP (of2_D cs (stS O 0 (P.1 0)) P hd) hS 1 rfl rfl 1 (by decide) (hts _ w_fl_X4_25) (fun _ h9 => h9) rfl (by decide +kernel) rfl rfl (Nat.le_of_ble_eq_true rfl) dX4_copyFrom_13 (fun H locs hP _ hS => ?_)
  have hP : va_P D vwC ((ofW cs a (stS (stS O 0 (P.1 0)) 1 (P.1 1))) ++ (ofW cs b P)) H := hP
  refine lv_aload_n hx hb dX4_copyFrom_16 rfl (lv_at hl 1 rfl) ?_
  refine va_get (D := D) (ci := 4) (v := .ref (b 5)) (C := RX4) (T := TX4) (N := 5) hx hb hts iw_X4 hown hK hP 19 rfl rfl 2 (by decide) (hts _ w_fl_X4_9) (fun _ h9 => h9) rfl dX4_copyFrom_17 ?_
  refine lv_iconst (v := 0) hx hb dX4_copyFrom_20 (by decide) ?_
  refine lv_aload_n hx hb dX4_copyFrom_21 rfl (lv_at hl 0 rfl) ?_
  refine va_get (D := D) (ci := 4) (v := .ref (a 5)) (C := RX4) (T := TX4) (N := 5) hx hb hts iw_X4 hown hK hP 1 rfl rfl 2 (by decide) (hts _ w_fl_X4_9) (fun _ h9 => h9) rfl dX4_copyFrom_22 ?_
  refine lv_iconst (v := 0) hx hb dX4_copyFrom_25 (by decide) ?_
  refine lv_bipush (v := 10) hx hb dX4_copyFrom_26 (by decide) ?_
  refine va_copyi (c0 := cs 0) (c1 := cs 0) (n0 := 10) (n1 := 10) (f := (P.2 5)) (g := (O.2 5)) (ty := .int) hx hb (by rw [hml, hl.1]) hown (hts _ w_ml_X4_28) (hts _ w_na_arraycopy) (hts _ w_st_arraycopy) (hts _ w_in_J10) hK hP (of2_D cs (stS (stS O 0 (P.1 0)) 1 (P.1 1)) P hd) hS 23 5 0 0 rfl rfl rfl rfl rfl (by decide) (by decide) (by decide) (by decide) (by decide) (fun _ _ => rfl) (Nat.le_of_ble_eq_true rfl) (Nat.le_of_ble_eq_true rfl) dX4_copyFrom_28 (fun H locs hP _ hS => ?_)
  have hP : va_P D vwC ((ofW cs a (stA (stS (stS O 0 (P.1 0)) 1 (P.1 1)) 5 (va_cpy (P.2 5) (O.2 5) 0 0 10))) ++ (ofW cs b P)) H := hP
  refine lv_aload_n hx hb dX4_copyFrom_31 rfl (lv_at hl 1 rfl) ?_
  refine va_get (D := D) (ci := 4) (v := .ref (b 6)) (C := RX4) (T := TX4) (N := 5) hx hb hts iw_X4 hown hK hP 19 rfl rfl 3 (by decide) (hts _ w_fl_X4_15) (fun _ h9 => h9) rfl dX4_copyFrom_32 ?_
  refine lv_iconst (v := 0) hx hb dX4_copyFrom_35 (by decide) ?_
  refine lv_aload_n hx hb dX4_copyFrom_36 rfl (lv_at hl 0 rfl) ?_
  refine va_get (D := D) (ci := 4) (v := .ref (a 6)) (C := RX4) (T := TX4) (N := 5) hx hb hts iw_X4 hown hK hP 1 rfl rfl 3 (by decide) (hts _ w_fl_X4_15) (fun _ h9 => h9) rfl dX4_copyFrom_37 ?_
  refine lv_iconst (v := 0) hx hb dX4_copyFrom_40 (by decide) ?_
  refine lv_bipush (v := 10) hx hb dX4_copyFrom_41 (by decide) ?_
  refine va_copyi (c0 := cs 0) (c1 := cs 0) (n0 := 10) (n1 := 10) (f := (P.2 6)) (g := (O.2 6)) (ty := .int) hx hb (by rw [hml, hl.1]) hown (hts _ w_ml_X4_28) (hts _ w_na_arraycopy) (hts _ w_st_arraycopy) (hts _ w_in_J10) hK hP (of2_D cs (stA (stS (stS O 0 (P.1 0)) 1 (P.1 1)) 5 (va_cpy (P.2 5) (O.2 5) 0 0 10)) P hd) hS 24 6 0 0 rfl rfl rfl rfl rfl (by decide) (by decide) (by decide) (by decide) (by decide) (fun _ _ => rfl) (Nat.le_of_ble_eq_true rfl) (Nat.le_of_ble_eq_true rfl) dX4_copyFrom_43 (fun H locs hP _ hS => ?_)
  have hP : va_P D vwC ((ofW cs a (stA (stA (stS (stS O 0 (P.1 0)) 1 (P.1 1)) 5 (va_cpy (P.2 5) (O.2 5) 0 0 10)) 6 (va_cpy (P.2 6) (O.2 6) 0 0 10))) ++ (ofW cs b P)) H := hP
  refine lv_aload_n hx hb dX4_copyFrom_46 rfl (lv_at hl 1 rfl) ?_
  refine va_get (D := D) (ci := 4) (v := .ref (b 7)) (C := RX4) (T := TX4) (N := 5) hx hb hts iw_X4 hown hK hP 19 rfl rfl 4 (by decide) (hts _ w_fl_X4_18) (fun _ h9 => h9) rfl dX4_copyFrom_47 ?_
  refine lv_iconst (v := 0) hx hb dX4_copyFrom_50 (by decide) ?_
  refine lv_aload_n hx hb dX4_copyFrom_51 rfl (lv_at hl 0 rfl) ?_
  refine va_get (D := D) (ci := 4) (v := .ref (a 7)) (C := RX4) (T := TX4) (N := 5) hx hb hts iw_X4 hown hK hP 1 rfl rfl 4 (by decide) (hts _ w_fl_X4_18) (fun _ h9 => h9) rfl dX4_copyFrom_52 ?_
  refine lv_iconst (v := 0) hx hb dX4_copyFrom_55 (by decide) ?_
  refine lv_bipush (v := 120) hx hb dX4_copyFrom_56 (by decide) ?_
  refine va_copyi (c0 := cs 0) (c1 := cs 0) (n0 := 120) (n1 := 120) (f := (P.2 7)) (g := (O.2 7)) (ty := .int) hx hb (by rw [hml, hl.1]) hown (hts _ w_ml_X4_28) (hts _ w_na_arraycopy) (hts _ w_st_arraycopy) (hts _ w_in_J10) hK hP (of2_D cs (stA (stA (stS (stS O 0 (P.1 0)) 1 (P.1 1)) 5 (va_cpy (P.2 5) (O.2 5) 0 0 10)) 6 (va_cpy (P.2 6) (O.2 6) 0 0 10)) P hd) hS 25 7 0 0 rfl rfl rfl rfl rfl (by decide) (by decide) (by decide) (by decide) (by decide) (fun _ _ => rfl) (Nat.le_of_ble_eq_true rfl) (Nat.le_of_ble_eq_true rfl) dX4_copyFrom_58 (fun H locs hP _ hS => ?_)
  have hP : va_P D vwC ((ofW cs a (stA (stA (stA (stS (stS O 0 (P.1 0)) 1 (P.1 1)) 5 (va_cpy (P.2 5) (O.2 5) 0 0 10)) 6 (va_cpy (P.2 6) (O.2 6) 0 0 10)) 7 (va_cpy (P.2 7) (O.2 7) 0 0 120))) ++ (ofW cs b P)) H := hP
  exact W.vret hx hb hr (fun t ht hW => ⟨⟨(stA (stA (stA (stS (stS O 0 (P.1 0)) 1 (P.1 1)) 5 (va_cpy (P.2 5) (O.2 5) 0 0 10)) 6 (va_cpy (P.2 6) (O.2 6) 0 0 10)) 7 (va_cpy (P.2 7) (O.2 7) 0 0 120)), rfl, hv, pw ht hP⟩, hS.F ht⟩) hS.2.2 dX4_copyFrom_61 (hlocks := hlocks)
theorem hd_X3_copyFrom : yX3_copyFrom.cls ≠ "java/lang/invoke/MethodHandle" ∧ yX3_copyFrom.cls ≠ "java/lang/invoke/VarHandle" ∧ (parseMethodDescriptor yX3_copyFrom.desc).map (fun d => d.parameters.length) = some 1 := by decide +kernel
def sX3_copyFrom (O P : OF) : OF := (stA (stA (stA (stA (stA (stA (stS (stS O 2 (P.1 2)) 3 (P.1 3)) 8 (va_cpy (P.2 8) (O.2 8) 0 0 24)) 9 (va_cpy (P.2 9) (O.2 9) 0 0 24)) 10 (va_cpy (P.2 10) (O.2 10) 0 0 24)) 11 (va_cpy (P.2 11) (O.2 11) 0 0 24)) 12 (va_cpy (P.2 12) (O.2 12) 0 0 24)) 13 (va_cpy (P.2 13) (O.2 13) 0 0 24))
set_option maxHeartbeats 4000000 in
set_option maxRecDepth 100000 in
theorem c_X3_copyFrom (l : Launch) (D : va_G) (cs : Nat → ClassId) (a b : Nat → Nat) (O P : OF) (hd : oD2 a b) : Met l yX3_copyFrom (wc yX3_copyFrom cX3_copyFrom 2 none) ({ frames := 1, cells := 0, slots := 0, locals := 40 } : Room) (va_Pc [.ref (a 2), .ref (b 2)] (PE D cs ((ofW cs a O) ++ (ofW cs b P)))) (va_Qv (fun u : OF => u = (sX3_copyFrom O P)) (fun u t => va_P D vwC ((ofW cs a u) ++ (ofW cs b P)) t.heap) (oA2 a b)) 0 0 (oA2 a b) := by
  obtain ⟨v, hv⟩ : ∃ v, sX3_copyFrom O P = v := ⟨_, rfl⟩
  rw [hv]
  refine met_o (lv := [(0, .ref (a 2)), (1, .ref (b 2))]) (by decide) (Nat.le_of_ble_eq_true rfl) rfl ?_
  intro p e s m args below meth c ls hx hb hr hml hts hown hlocks hin hP hE hl
  have hown : s.vm.findClass RX3 = some m.cls := hown
  have hK := hE.1
  have hP : va_P D vwC ((ofW cs a O) ++ (ofW cs b P)) s.heap := hP
  have hS : va_S (oA2 a b) s.heap s.heap [] := va_S.rf
  unfold sX3_copyFrom at hv
  refine lv_aload_n hx hb dX3_copyFrom_0 rfl (lv_at hl 0 rfl) ?_
  refine lv_aload_n hx hb dX3_copyFrom_1 rfl (lv_at hl 1 rfl) ?_
  refine va_get (D := D) (ci := 3) (v := .int (P.1 2)) (C := RX3) (T := TX3) (N := 8) hx hb hts iw_X3 hown hK hP 20 rfl rfl 0 (by decide) (hts _ w_fl_X3_30) (fun _ h9 => h9) rfl dX3_copyFrom_2 ?_
  refine va_put (D := D) (ci := 3) (v := .int (P.1 2)) (ty := .int) (C := RX3) (T := TX3) (N := 8) hx hb hts iw_X3 tyX3 tyX3_ok nmX3 hown hK hP (of2_D cs O P hd) hS 2 rfl rfl 0 (by decide) (hts _ w_fl_X3_30) (fun _ h9 => h9) rfl (by decide +kernel) rfl rfl (Nat.le_of_ble_eq_true rfl) dX3_copyFrom_5 (fun H locs hP _ hS => ?_)
  have hP : va_P D vwC ((ofW cs a (stS O 2 (P.1 2))) ++ (ofW cs b P)) H := hP
  refine lv_aload_n hx hb dX3_copyFrom_8 rfl (lv_at hl 0 rfl) ?_
  refine lv_aload_n hx hb dX3_copyFrom_9 rfl (lv_at hl 1 rfl) ?_
  refine va_get (D := D) (ci := 3) (v := .int (P.1 3)) (C := RX3) (T := TX3) (N := 8) hx hb hts iw_X3 hown hK hP 20 rfl rfl 1 (by decide) (hts _ w_fl_X3_34) (fun _ h9 => h9) rfl dX3_copyFrom_10 ?_
  refine va_put (D := D) (ci := 3) (v := .int (P.1 3)) (ty := .int) (C := RX3) (T := TX3) (N := 8) hx hb hts iw_X3 tyX3 tyX3_ok nmX3 hown hK hP (of2_D cs (stS O 2 (P.1 2)) P hd) hS 2 rfl rfl 1 (by decide) (hts _ w_fl_X3_34) (fun _ h9 => h9) rfl (by decide +kernel) rfl rfl (Nat.le_of_ble_eq_true rfl) dX3_copyFrom_13 (fun H locs hP _ hS => ?_)
  have hP : va_P D vwC ((ofW cs a (stS (stS O 2 (P.1 2)) 3 (P.1 3))) ++ (ofW cs b P)) H := hP
  refine lv_aload_n hx hb dX3_copyFrom_16 rfl (lv_at hl 1 rfl) ?_
  refine va_get (D := D) (ci := 3) (v := .ref (b 8)) (C := RX3) (T := TX3) (N := 8) hx hb hts iw_X3 hown hK hP 20 rfl rfl 2 (by decide) (hts _ w_fl_X3_9) (fun _ h9 => h9) rfl dX3_copyFrom_17 ?_
  refine lv_iconst (v := 0) hx hb dX3_copyFrom_20 (by decide) ?_
  refine lv_aload_n hx hb dX3_copyFrom_21 rfl (lv_at hl 0 rfl) ?_
  refine va_get (D := D) (ci := 3) (v := .ref (a 8)) (C := RX3) (T := TX3) (N := 8) hx hb hts iw_X3 hown hK hP 2 rfl rfl 2 (by decide) (hts _ w_fl_X3_9) (fun _ h9 => h9) rfl dX3_copyFrom_22 ?_
  refine lv_iconst (v := 0) hx hb dX3_copyFrom_25 (by decide) ?_
  refine lv_bipush (v := 24) hx hb dX3_copyFrom_26 (by decide) ?_
  refine va_copyi (c0 := cs 0) (c1 := cs 0) (n0 := 24) (n1 := 24) (f := (P.2 8)) (g := (O.2 8)) (ty := .int) hx hb (by rw [hml, hl.1]) hown (hts _ w_ml_X3_37) (hts _ w_na_arraycopy) (hts _ w_st_arraycopy) (hts _ w_in_J10) hK hP (of2_D cs (stS (stS O 2 (P.1 2)) 3 (P.1 3)) P hd) hS 26 8 0 0 rfl rfl rfl rfl rfl (by decide) (by decide) (by decide) (by decide) (by decide) (fun _ _ => rfl) (Nat.le_of_ble_eq_true rfl) (Nat.le_of_ble_eq_true rfl) dX3_copyFrom_28 (fun H locs hP _ hS => ?_)
  have hP : va_P D vwC ((ofW cs a (stA (stS (stS O 2 (P.1 2)) 3 (P.1 3)) 8 (va_cpy (P.2 8) (O.2 8) 0 0 24))) ++ (ofW cs b P)) H := hP
  refine lv_aload_n hx hb dX3_copyFrom_31 rfl (lv_at hl 1 rfl) ?_
  refine va_get (D := D) (ci := 3) (v := .ref (b 9)) (C := RX3) (T := TX3) (N := 8) hx hb hts iw_X3 hown hK hP 20 rfl rfl 3 (by decide) (hts _ w_fl_X3_15) (fun _ h9 => h9) rfl dX3_copyFrom_32 ?_
  refine lv_iconst (v := 0) hx hb dX3_copyFrom_35 (by decide) ?_
  refine lv_aload_n hx hb dX3_copyFrom_36 rfl (lv_at hl 0 rfl) ?_
  refine va_get (D := D) (ci := 3) (v := .ref (a 9)) (C := RX3) (T := TX3) (N := 8) hx hb hts iw_X3 hown hK hP 2 rfl rfl 3 (by decide) (hts _ w_fl_X3_15) (fun _ h9 => h9) rfl dX3_copyFrom_37 ?_
  refine lv_iconst (v := 0) hx hb dX3_copyFrom_40 (by decide) ?_
  refine lv_bipush (v := 24) hx hb dX3_copyFrom_41 (by decide) ?_
  refine va_copyi (c0 := cs 0) (c1 := cs 0) (n0 := 24) (n1 := 24) (f := (P.2 9)) (g := (O.2 9)) (ty := .int) hx hb (by rw [hml, hl.1]) hown (hts _ w_ml_X3_37) (hts _ w_na_arraycopy) (hts _ w_st_arraycopy) (hts _ w_in_J10) hK hP (of2_D cs (stA (stS (stS O 2 (P.1 2)) 3 (P.1 3)) 8 (va_cpy (P.2 8) (O.2 8) 0 0 24)) P hd) hS 27 9 0 0 rfl rfl rfl rfl rfl (by decide) (by decide) (by decide) (by decide) (by decide) (fun _ _ => rfl) (Nat.le_of_ble_eq_true rfl) (Nat.le_of_ble_eq_true rfl) dX3_copyFrom_43 (fun H locs hP _ hS => ?_)
  have hP : va_P D vwC ((ofW cs a (stA (stA (stS (stS O 2 (P.1 2)) 3 (P.1 3)) 8 (va_cpy (P.2 8) (O.2 8) 0 0 24)) 9 (va_cpy (P.2 9) (O.2 9) 0 0 24))) ++ (ofW cs b P)) H := hP
  refine lv_aload_n hx hb dX3_copyFrom_46 rfl (lv_at hl 1 rfl) ?_
  refine va_get (D := D) (ci := 3) (v := .ref (b 10)) (C := RX3) (T := TX3) (N := 8) hx hb hts iw_X3 hown hK hP 20 rfl rfl 4 (by decide) (hts _ w_fl_X3_18) (fun _ h9 => h9) rfl dX3_copyFrom_47 ?_
  refine lv_iconst (v := 0) hx hb dX3_copyFrom_50 (by decide) ?_
  refine lv_aload_n hx hb dX3_copyFrom_51 rfl (lv_at hl 0 rfl) ?_
  refine va_get (D := D) (ci := 3) (v := .ref (a 10)) (C := RX3) (T := TX3) (N := 8) hx hb hts iw_X3 hown hK hP 2 rfl rfl 4 (by decide) (hts _ w_fl_X3_18) (fun _ h9 => h9) rfl dX3_copyFrom_52 ?_
  refine lv_iconst (v := 0) hx hb dX3_copyFrom_55 (by decide) ?_
  refine lv_bipush (v := 24) hx hb dX3_copyFrom_56 (by decide) ?_
  refine va_copyi (c0 := cs 0) (c1 := cs 0) (n0 := 24) (n1 := 24) (f := (P.2 10)) (g := (O.2 10)) (ty := .int) hx hb (by rw [hml, hl.1]) hown (hts _ w_ml_X3_37) (hts _ w_na_arraycopy) (hts _ w_st_arraycopy) (hts _ w_in_J10) hK hP (of2_D cs (stA (stA (stS (stS O 2 (P.1 2)) 3 (P.1 3)) 8 (va_cpy (P.2 8) (O.2 8) 0 0 24)) 9 (va_cpy (P.2 9) (O.2 9) 0 0 24)) P hd) hS 28 10 0 0 rfl rfl rfl rfl rfl (by decide) (by decide) (by decide) (by decide) (by decide) (fun _ _ => rfl) (Nat.le_of_ble_eq_true rfl) (Nat.le_of_ble_eq_true rfl) dX3_copyFrom_58 (fun H locs hP _ hS => ?_)
  have hP : va_P D vwC ((ofW cs a (stA (stA (stA (stS (stS O 2 (P.1 2)) 3 (P.1 3)) 8 (va_cpy (P.2 8) (O.2 8) 0 0 24)) 9 (va_cpy (P.2 9) (O.2 9) 0 0 24)) 10 (va_cpy (P.2 10) (O.2 10) 0 0 24))) ++ (ofW cs b P)) H := hP
  refine lv_aload_n hx hb dX3_copyFrom_61 rfl (lv_at hl 1 rfl) ?_
  refine va_get (D := D) (ci := 3) (v := .ref (b 11)) (C := RX3) (T := TX3) (N := 8) hx hb hts iw_X3 hown hK hP 20 rfl rfl 5 (by decide) (hts _ w_fl_X3_21) (fun _ h9 => h9) rfl dX3_copyFrom_62 ?_
  refine lv_iconst (v := 0) hx hb dX3_copyFrom_65 (by decide) ?_
  refine lv_aload_n hx hb dX3_copyFrom_66 rfl (lv_at hl 0 rfl) ?_
  refine va_get (D := D) (ci := 3) (v := .ref (a 11)) (C := RX3) (T := TX3) (N := 8) hx hb hts iw_X3 hown hK hP 2 rfl rfl 5 (by decide) (hts _ w_fl_X3_21) (fun _ h9 => h9) rfl dX3_copyFrom_67 ?_
  refine lv_iconst (v := 0) hx hb dX3_copyFrom_70 (by decide) ?_
  refine lv_bipush (v := 24) hx hb dX3_copyFrom_71 (by decide) ?_
  refine va_copyi (c0 := cs 0) (c1 := cs 0) (n0 := 24) (n1 := 24) (f := (P.2 11)) (g := (O.2 11)) (ty := .int) hx hb (by rw [hml, hl.1]) hown (hts _ w_ml_X3_37) (hts _ w_na_arraycopy) (hts _ w_st_arraycopy) (hts _ w_in_J10) hK hP (of2_D cs (stA (stA (stA (stS (stS O 2 (P.1 2)) 3 (P.1 3)) 8 (va_cpy (P.2 8) (O.2 8) 0 0 24)) 9 (va_cpy (P.2 9) (O.2 9) 0 0 24)) 10 (va_cpy (P.2 10) (O.2 10) 0 0 24)) P hd) hS 29 11 0 0 rfl rfl rfl rfl rfl (by decide) (by decide) (by decide) (by decide) (by decide) (fun _ _ => rfl) (Nat.le_of_ble_eq_true rfl) (Nat.le_of_ble_eq_true rfl) dX3_copyFrom_73 (fun H locs hP _ hS => ?_)
  have hP : va_P D vwC ((ofW cs a (stA (stA (stA (stA (stS (stS O 2 (P.1 2)) 3 (P.1 3)) 8 (va_cpy (P.2 8) (O.2 8) 0 0 24)) 9 (va_cpy (P.2 9) (O.2 9) 0 0 24)) 10 (va_cpy (P.2 10) (O.2 10) 0 0 24)) 11 (va_cpy (P.2 11) (O.2 11) 0 0 24))) ++ (ofW cs b P)) H := hP
  refine lv_aload_n hx hb dX3_copyFrom_76 rfl (lv_at hl 1 rfl) ?_
  refine va_get (D := D) (ci := 3) (v := .ref (b 12)) (C := RX3) (T := TX3) (N := 8) hx hb hts iw_X3 hown hK hP 20 rfl rfl 6 (by decide) (hts _ w_fl_X3_24) (fun _ h9 => h9) rfl dX3_copyFrom_77 ?_
  refine lv_iconst (v := 0) hx hb dX3_copyFrom_80 (by decide) ?_
  refine lv_aload_n hx hb dX3_copyFrom_81 rfl (lv_at hl 0 rfl) ?_
  refine va_get (D := D) (ci := 3) (v := .ref (a 12)) (C := RX3) (T := TX3) (N := 8) hx hb hts iw_X3 hown hK hP 2 rfl rfl 6 (by decide) (hts _ w_fl_X3_24) (fun _ h9 => h9) rfl dX3_copyFrom_82 ?_
  refine lv_iconst (v := 0) hx hb dX3_copyFrom_85 (by decide) ?_
  refine lv_bipush (v := 24) hx hb dX3_copyFrom_86 (by decide) ?_
  refine va_copyi (c0 := cs 0) (c1 := cs 0) (n0 := 24) (n1 := 24) (f := (P.2 12)) (g := (O.2 12)) (ty := .int) hx hb (by rw [hml, hl.1]) hown (hts _ w_ml_X3_37) (hts _ w_na_arraycopy) (hts _ w_st_arraycopy) (hts _ w_in_J10) hK hP (of2_D cs (stA (stA (stA (stA (stS (stS O 2 (P.1 2)) 3 (P.1 3)) 8 (va_cpy (P.2 8) (O.2 8) 0 0 24)) 9 (va_cpy (P.2 9) (O.2 9) 0 0 24)) 10 (va_cpy (P.2 10) (O.2 10) 0 0 24)) 11 (va_cpy (P.2 11) (O.2 11) 0 0 24)) P hd) hS 30 12 0 0 rfl rfl rfl rfl rfl (by decide) (by decide) (by decide) (by decide) (by decide) (fun _ _ => rfl) (Nat.le_of_ble_eq_true rfl) (Nat.le_of_ble_eq_true rfl) dX3_copyFrom_88 (fun H locs hP _ hS => ?_)
  have hP : va_P D vwC ((ofW cs a (stA (stA (stA (stA (stA (stS (stS O 2 (P.1 2)) 3 (P.1 3)) 8 (va_cpy (P.2 8) (O.2 8) 0 0 24)) 9 (va_cpy (P.2 9) (O.2 9) 0 0 24)) 10 (va_cpy (P.2 10) (O.2 10) 0 0 24)) 11 (va_cpy (P.2 11) (O.2 11) 0 0 24)) 12 (va_cpy (P.2 12) (O.2 12) 0 0 24))) ++ (ofW cs b P)) H := hP
  refine lv_aload_n hx hb dX3_copyFrom_91 rfl (lv_at hl 1 rfl) ?_
  refine va_get (D := D) (ci := 3) (v := .ref (b 13)) (C := RX3) (T := TX3) (N := 8) hx hb hts iw_X3 hown hK hP 20 rfl rfl 7 (by decide) (hts _ w_fl_X3_27) (fun _ h9 => h9) rfl dX3_copyFrom_92 ?_
  refine lv_iconst (v := 0) hx hb dX3_copyFrom_95 (by decide) ?_
  refine lv_aload_n hx hb dX3_copyFrom_96 rfl (lv_at hl 0 rfl) ?_
  refine va_get (D := D) (ci := 3) (v := .ref (a 13)) (C := RX3) (T := TX3) (N := 8) hx hb hts iw_X3 hown hK hP 2 rfl rfl 7 (by decide) (hts _ w_fl_X3_27) (fun _ h9 => h9) rfl dX3_copyFrom_97 ?_
  refine lv_iconst (v := 0) hx hb dX3_copyFrom_100 (by decide) ?_
  refine lv_bipush (v := 24) hx hb dX3_copyFrom_101 (by decide) ?_
  refine va_copyi (c0 := cs 0) (c1 := cs 0) (n0 := 24) (n1 := 24) (f := (P.2 13)) (g := (O.2 13)) (ty := .int) hx hb (by rw [hml, hl.1]) hown (hts _ w_ml_X3_37) (hts _ w_na_arraycopy) (hts _ w_st_arraycopy) (hts _ w_in_J10) hK hP (of2_D cs (stA (stA (stA (stA (stA (stS (stS O 2 (P.1 2)) 3 (P.1 3)) 8 (va_cpy (P.2 8) (O.2 8) 0 0 24)) 9 (va_cpy (P.2 9) (O.2 9) 0 0 24)) 10 (va_cpy (P.2 10) (O.2 10) 0 0 24)) 11 (va_cpy (P.2 11) (O.2 11) 0 0 24)) 12 (va_cpy (P.2 12) (O.2 12) 0 0 24)) P hd) hS 31 13 0 0 rfl rfl rfl rfl rfl (by decide) (by decide) (by decide) (by decide) (by decide) (fun _ _ => rfl) (Nat.le_of_ble_eq_true rfl) (Nat.le_of_ble_eq_true rfl) dX3_copyFrom_103 (fun H locs hP _ hS => ?_)
  have hP : va_P D vwC ((ofW cs a (stA (stA (stA (stA (stA (stA (stS (stS O 2 (P.1 2)) 3 (P.1 3)) 8 (va_cpy (P.2 8) (O.2 8) 0 0 24)) 9 (va_cpy (P.2 9) (O.2 9) 0 0 24)) 10 (va_cpy (P.2 10) (O.2 10) 0 0 24)) 11 (va_cpy (P.2 11) (O.2 11) 0 0 24)) 12 (va_cpy (P.2 12) (O.2 12) 0 0 24)) 13 (va_cpy (P.2 13) (O.2 13) 0 0 24))) ++ (ofW cs b P)) H := hP
  exact W.vret hx hb hr (fun t ht hW => ⟨⟨(stA (stA (stA (stA (stA (stA (stS (stS O 2 (P.1 2)) 3 (P.1 3)) 8 (va_cpy (P.2 8) (O.2 8) 0 0 24)) 9 (va_cpy (P.2 9) (O.2 9) 0 0 24)) 10 (va_cpy (P.2 10) (O.2 10) 0 0 24)) 11 (va_cpy (P.2 11) (O.2 11) 0 0 24)) 12 (va_cpy (P.2 12) (O.2 12) 0 0 24)) 13 (va_cpy (P.2 13) (O.2 13) 0 0 24)), rfl, hv, pw ht hP⟩, hS.F ht⟩) hS.2.2 dX3_copyFrom_106 (hlocks := hlocks)
theorem hd_X6_copyFrom : yX6_copyFrom.cls ≠ "java/lang/invoke/MethodHandle" ∧ yX6_copyFrom.cls ≠ "java/lang/invoke/VarHandle" ∧ (parseMethodDescriptor yX6_copyFrom.desc).map (fun d => d.parameters.length) = some 1 := by decide +kernel
def sX6_copyFrom (O P : OF) : OF := (stA (stA (stA (stA (stS O 4 (P.1 4)) 14 (va_cpy (P.2 14) (O.2 14) 0 0 30)) 15 (va_cpy (P.2 15) (O.2 15) 0 0 30)) 16 (va_cpy (P.2 16) (O.2 16) 0 0 30)) 17 (va_cpy (P.2 17) (O.2 17) 0 0 30))
set_option maxHeartbeats 4000000 in
set_option maxRecDepth 100000 in
theorem c_X6_copyFrom (l : Launch) (D : va_G) (cs : Nat → ClassId) (a b : Nat → Nat) (O P : OF) (hd : oD2 a b) : Met l yX6_copyFrom (wc yX6_copyFrom cX6_copyFrom 2 none) ({ frames := 1, cells := 0, slots := 0, locals := 40 } : Room) (va_Pc [.ref (a 3), .ref (b 3)] (PE D cs ((ofW cs a O) ++ (ofW cs b P)))) (va_Qv (fun u : OF => u = (sX6_copyFrom O P)) (fun u t => va_P D vwC ((ofW cs a u) ++ (ofW cs b P)) t.heap) (oA2 a b)) 0 0 (oA2 a b) := by
  obtain ⟨v, hv⟩ : ∃ v, sX6_copyFrom O P = v := ⟨_, rfl⟩
  rw [hv]
  refine met_o (lv := [(0, .ref (a 3)), (1, .ref (b 3))]) (by decide) (Nat.le_of_ble_eq_true rfl) rfl ?_
  intro p e s m args below meth c ls hx hb hr hml hts hown hlocks hin hP hE hl
  have hown : s.vm.findClass RX6 = some m.cls := hown
  have hK := hE.1
  have hP : va_P D vwC ((ofW cs a O) ++ (ofW cs b P)) s.heap := hP
  have hS : va_S (oA2 a b) s.heap s.heap [] := va_S.rf
  unfold sX6_copyFrom at hv
  refine lv_aload_n hx hb dX6_copyFrom_0 rfl (lv_at hl 0 rfl) ?_
  refine lv_aload_n hx hb dX6_copyFrom_1 rfl (lv_at hl 1 rfl) ?_
  refine va_get (D := D) (ci := 6) (v := .int (P.1 4)) (C := RX6) (T := TX6) (N := 5) hx hb hts iw_X6 hown hK hP 21 rfl rfl 0 (by decide) (hts _ w_fl_X6_24) (fun _ h9 => h9) rfl dX6_copyFrom_2 ?_
  refine va_put (D := D) (ci := 6) (v := .int (P.1 4)) (ty := .int) (C := RX6) (T := TX6) (N := 5) hx hb hts iw_X6 tyX6 tyX6_ok nmX6 hown hK hP (of2_D cs O P hd) hS 3 rfl rfl 0 (by decide) (hts _ w_fl_X6_24) (fun _ h9 => h9) rfl (by decide +kernel) rfl rfl (Nat.le_of_ble_eq_true rfl) dX6_copyFrom_5 (fun H locs hP _ hS => ?_)
  have hP : va_P D vwC ((ofW cs a (stS O 4 (P.1 4))) ++ (ofW cs b P)) H := hP
  refine lv_aload_n hx hb dX6_copyFrom_8 rfl (lv_at hl 1 rfl) ?_
  refine va_get (D := D) (ci := 6) (v := .ref (b 14)) (C := RX6) (T := TX6) (N := 5) hx hb hts iw_X6 hown hK hP 21 rfl rfl 1 (by decide) (hts _ w_fl_X6_9) (fun _ h9 => h9) rfl dX6_copyFrom_9 ?_
  refine lv_iconst (v := 0) hx hb dX6_copyFrom_12 (by decide) ?_
  refine lv_aload_n hx hb dX6_copyFrom_13 rfl (lv_at hl 0 rfl) ?_
  refine va_get (D := D) (ci := 6) (v := .ref (a 14)) (C := RX6) (T := TX6) (N := 5) hx hb hts iw_X6 hown hK hP 3 rfl rfl 1 (by decide) (hts _ w_fl_X6_9) (fun _ h9 => h9) rfl dX6_copyFrom_14 ?_
  refine lv_iconst (v := 0) hx hb dX6_copyFrom_17 (by decide) ?_
  refine lv_bipush (v := 30) hx hb dX6_copyFrom_18 (by decide) ?_
  refine va_copyi (c0 := cs 0) (c1 := cs 0) (n0 := 30) (n1 := 30) (f := (P.2 14)) (g := (O.2 14)) (ty := .int) hx hb (by rw [hml, hl.1]) hown (hts _ w_ml_X6_28) (hts _ w_na_arraycopy) (hts _ w_st_arraycopy) (hts _ w_in_J10) hK hP (of2_D cs (stS O 4 (P.1 4)) P hd) hS 32 14 0 0 rfl rfl rfl rfl rfl (by decide) (by decide) (by decide) (by decide) (by decide) (fun _ _ => rfl) (Nat.le_of_ble_eq_true rfl) (Nat.le_of_ble_eq_true rfl) dX6_copyFrom_20 (fun H locs hP _ hS => ?_)
  have hP : va_P D vwC ((ofW cs a (stA (stS O 4 (P.1 4)) 14 (va_cpy (P.2 14) (O.2 14) 0 0 30))) ++ (ofW cs b P)) H := hP
  refine lv_aload_n hx hb dX6_copyFrom_23 rfl (lv_at hl 1 rfl) ?_
  refine va_get (D := D) (ci := 6) (v := .ref (b 15)) (C := RX6) (T := TX6) (N := 5) hx hb hts iw_X6 hown hK hP 21 rfl rfl 2 (by decide) (hts _ w_fl_X6_15) (fun _ h9 => h9) rfl dX6_copyFrom_24 ?_
  refine lv_iconst (v := 0) hx hb dX6_copyFrom_27 (by decide) ?_
  refine lv_aload_n hx hb dX6_copyFrom_28 rfl (lv_at hl 0 rfl) ?_
  refine va_get (D := D) (ci := 6) (v := .ref (a 15)) (C := RX6) (T := TX6) (N := 5) hx hb hts iw_X6 hown hK hP 3 rfl rfl 2 (by decide) (hts _ w_fl_X6_15) (fun _ h9 => h9) rfl dX6_copyFrom_29 ?_
  refine lv_iconst (v := 0) hx hb dX6_copyFrom_32 (by decide) ?_
  refine lv_bipush (v := 30) hx hb dX6_copyFrom_33 (by decide) ?_
  refine va_copyi (c0 := cs 0) (c1 := cs 0) (n0 := 30) (n1 := 30) (f := (P.2 15)) (g := (O.2 15)) (ty := .int) hx hb (by rw [hml, hl.1]) hown (hts _ w_ml_X6_28) (hts _ w_na_arraycopy) (hts _ w_st_arraycopy) (hts _ w_in_J10) hK hP (of2_D cs (stA (stS O 4 (P.1 4)) 14 (va_cpy (P.2 14) (O.2 14) 0 0 30)) P hd) hS 33 15 0 0 rfl rfl rfl rfl rfl (by decide) (by decide) (by decide) (by decide) (by decide) (fun _ _ => rfl) (Nat.le_of_ble_eq_true rfl) (Nat.le_of_ble_eq_true rfl) dX6_copyFrom_35 (fun H locs hP _ hS => ?_)
  have hP : va_P D vwC ((ofW cs a (stA (stA (stS O 4 (P.1 4)) 14 (va_cpy (P.2 14) (O.2 14) 0 0 30)) 15 (va_cpy (P.2 15) (O.2 15) 0 0 30))) ++ (ofW cs b P)) H := hP
  refine lv_aload_n hx hb dX6_copyFrom_38 rfl (lv_at hl 1 rfl) ?_
  refine va_get (D := D) (ci := 6) (v := .ref (b 16)) (C := RX6) (T := TX6) (N := 5) hx hb hts iw_X6 hown hK hP 21 rfl rfl 3 (by decide) (hts _ w_fl_X6_18) (fun _ h9 => h9) rfl dX6_copyFrom_39 ?_
  refine lv_iconst (v := 0) hx hb dX6_copyFrom_42 (by decide) ?_
  refine lv_aload_n hx hb dX6_copyFrom_43 rfl (lv_at hl 0 rfl) ?_
  refine va_get (D := D) (ci := 6) (v := .ref (a 16)) (C := RX6) (T := TX6) (N := 5) hx hb hts iw_X6 hown hK hP 3 rfl rfl 3 (by decide) (hts _ w_fl_X6_18) (fun _ h9 => h9) rfl dX6_copyFrom_44 ?_
  refine lv_iconst (v := 0) hx hb dX6_copyFrom_47 (by decide) ?_
  refine lv_bipush (v := 30) hx hb dX6_copyFrom_48 (by decide) ?_
  refine va_copyi (c0 := cs 0) (c1 := cs 0) (n0 := 30) (n1 := 30) (f := (P.2 16)) (g := (O.2 16)) (ty := .int) hx hb (by rw [hml, hl.1]) hown (hts _ w_ml_X6_28) (hts _ w_na_arraycopy) (hts _ w_st_arraycopy) (hts _ w_in_J10) hK hP (of2_D cs (stA (stA (stS O 4 (P.1 4)) 14 (va_cpy (P.2 14) (O.2 14) 0 0 30)) 15 (va_cpy (P.2 15) (O.2 15) 0 0 30)) P hd) hS 34 16 0 0 rfl rfl rfl rfl rfl (by decide) (by decide) (by decide) (by decide) (by decide) (fun _ _ => rfl) (Nat.le_of_ble_eq_true rfl) (Nat.le_of_ble_eq_true rfl) dX6_copyFrom_50 (fun H locs hP _ hS => ?_)
  have hP : va_P D vwC ((ofW cs a (stA (stA (stA (stS O 4 (P.1 4)) 14 (va_cpy (P.2 14) (O.2 14) 0 0 30)) 15 (va_cpy (P.2 15) (O.2 15) 0 0 30)) 16 (va_cpy (P.2 16) (O.2 16) 0 0 30))) ++ (ofW cs b P)) H := hP
  refine lv_aload_n hx hb dX6_copyFrom_53 rfl (lv_at hl 1 rfl) ?_
  refine va_get (D := D) (ci := 6) (v := .ref (b 17)) (C := RX6) (T := TX6) (N := 5) hx hb hts iw_X6 hown hK hP 21 rfl rfl 4 (by decide) (hts _ w_fl_X6_21) (fun _ h9 => h9) rfl dX6_copyFrom_54 ?_
  refine lv_iconst (v := 0) hx hb dX6_copyFrom_57 (by decide) ?_
  refine lv_aload_n hx hb dX6_copyFrom_58 rfl (lv_at hl 0 rfl) ?_
  refine va_get (D := D) (ci := 6) (v := .ref (a 17)) (C := RX6) (T := TX6) (N := 5) hx hb hts iw_X6 hown hK hP 3 rfl rfl 4 (by decide) (hts _ w_fl_X6_21) (fun _ h9 => h9) rfl dX6_copyFrom_59 ?_
  refine lv_iconst (v := 0) hx hb dX6_copyFrom_62 (by decide) ?_
  refine lv_bipush (v := 30) hx hb dX6_copyFrom_63 (by decide) ?_
  refine va_copyi (c0 := cs 0) (c1 := cs 0) (n0 := 30) (n1 := 30) (f := (P.2 17)) (g := (O.2 17)) (ty := .int) hx hb (by rw [hml, hl.1]) hown (hts _ w_ml_X6_28) (hts _ w_na_arraycopy) (hts _ w_st_arraycopy) (hts _ w_in_J10) hK hP (of2_D cs (stA (stA (stA (stS O 4 (P.1 4)) 14 (va_cpy (P.2 14) (O.2 14) 0 0 30)) 15 (va_cpy (P.2 15) (O.2 15) 0 0 30)) 16 (va_cpy (P.2 16) (O.2 16) 0 0 30)) P hd) hS 35 17 0 0 rfl rfl rfl rfl rfl (by decide) (by decide) (by decide) (by decide) (by decide) (fun _ _ => rfl) (Nat.le_of_ble_eq_true rfl) (Nat.le_of_ble_eq_true rfl) dX6_copyFrom_65 (fun H locs hP _ hS => ?_)
  have hP : va_P D vwC ((ofW cs a (stA (stA (stA (stA (stS O 4 (P.1 4)) 14 (va_cpy (P.2 14) (O.2 14) 0 0 30)) 15 (va_cpy (P.2 15) (O.2 15) 0 0 30)) 16 (va_cpy (P.2 16) (O.2 16) 0 0 30)) 17 (va_cpy (P.2 17) (O.2 17) 0 0 30))) ++ (ofW cs b P)) H := hP
  exact W.vret hx hb hr (fun t ht hW => ⟨⟨(stA (stA (stA (stA (stS O 4 (P.1 4)) 14 (va_cpy (P.2 14) (O.2 14) 0 0 30)) 15 (va_cpy (P.2 15) (O.2 15) 0 0 30)) 16 (va_cpy (P.2 16) (O.2 16) 0 0 30)) 17 (va_cpy (P.2 17) (O.2 17) 0 0 30)), rfl, hv, pw ht hP⟩, hS.F ht⟩) hS.2.2 dX6_copyFrom_68 (hlocks := hlocks)
theorem hd_X1_copyFrom : yX1_copyFrom.cls ≠ "java/lang/invoke/MethodHandle" ∧ yX1_copyFrom.cls ≠ "java/lang/invoke/VarHandle" ∧ (parseMethodDescriptor yX1_copyFrom.desc).map (fun d => d.parameters.length) = some 1 := by decide +kernel
def sX1_copyFrom (O P : OF) : OF := (stS (stS (stA (sX6_copyFrom (sX3_copyFrom (sX4_copyFrom O P) P) P) 4 (va_cpy (P.2 4) ((sX6_copyFrom (sX3_copyFrom (sX4_copyFrom O P) P) P).2 4) 0 0 3)) 5 (P.1 5)) 6 (P.1 6))
set_option maxHeartbeats 4000000 in
set_option maxRecDepth 100000 in
theorem c_X1_copyFrom (l : Launch) (D : va_G) (cs : Nat → ClassId) (a b : Nat → Nat) (O P : OF) (hd : oD2 a b) : Met l yX1_copyFrom (wc yX1_copyFrom cX1_copyFrom 2 none) ({ frames := 2, cells := 0, slots := 0, locals := 61 } : Room) (va_Pc [.ref (a 0), .ref (b 0)] (PE D cs ((ofW cs a O) ++ (ofW cs b P)))) (va_Qv (fun u : OF => u = (sX1_copyFrom O P)) (fun u t => va_P D vwC ((ofW cs a u) ++ (ofW cs b P)) t.heap) (oA2 a b)) 0 0 (oA2 a b) := by
  obtain ⟨v, hv⟩ : ∃ v, sX1_copyFrom O P = v := ⟨_, rfl⟩
  rw [hv]
  refine met_o (lv := [(0, .ref (a 0)), (1, .ref (b 0))]) (by decide) (Nat.le_of_ble_eq_true rfl) rfl ?_
  intro p e s m args below meth c ls hx hb hr hml hts hown hlocks hin hP hE hl
  have hown : s.vm.findClass RX1 = some m.cls := hown
  have hK := hE.1
  have hP : va_P D vwC ((ofW cs a O) ++ (ofW cs b P)) s.heap := hP
  have hS : va_S (oA2 a b) s.heap s.heap [] := va_S.rf
  unfold sX1_copyFrom at hv
  refine lv_aload_n hx hb dX1_copyFrom_0 rfl (lv_at hl 0 rfl) ?_
  refine va_get (D := D) (ci := 1) (v := .ref (a 1)) (C := RX1) (T := TX1) (N := 6) hx hb hts iw_X1 hown hK hP 0 rfl rfl 0 (by decide) (hts _ w_fl_X1_12) (fun _ h9 => h9) rfl dX1_copyFrom_1 ?_
  refine lv_aload_n hx hb dX1_copyFrom_4 rfl (lv_at hl 1 rfl) ?_
  refine va_get (D := D) (ci := 1) (v := .ref (b 1)) (C := RX1) (T := TX1) (N := 6) hx hb hts iw_X1 hown hK hP 18 rfl rfl 0 (by decide) (hts _ w_fl_X1_12) (fun _ h9 => h9) rfl dX1_copyFrom_5 ?_
  refine w_v (sX4_copyFrom O P) (va_runV (As := [.ref (b 1)]) (rest := []) ⟨hx, hb, hml, hown, hts⟩ (c_X4_copyFrom l D cs a b O P hd) (cwV 1 hts (good_V w_ml_X1_49 w_im_X4_copyFrom w_se_X4_copyFrom w_in_X4 w_co_X4_copyFrom) rfl rfl rfl ⟨rfl, hd_X4_copyFrom⟩ ⟨Nat.le_of_ble_eq_true rfl, Nat.le_of_ble_eq_true rfl⟩) (pe_W (C := RX4) (T := TX4) (N := 5) (ci := 4) (q0 := 1) hP hE rfl rfl) rfl rfl hl.1 rfl (lv_room (Nat.le_of_ble_eq_true rfl)) dX1_copyFrom_8 ⟨Nat.zero_le _, Nat.zero_le _⟩) hS (fun _ _ h => h) (fun _ h => h) (fun t locs hB hz hk hS => ?_)
  have hP : va_P D vwC ((ofW cs a (sX4_copyFrom O P)) ++ (ofW cs b P)) t.heap := hB
  refine lv_aload_n hx hb dX1_copyFrom_11 rfl (lv_at hl 0 rfl) ?_
  refine va_get (D := D) (ci := 1) (v := .ref (a 2)) (C := RX1) (T := TX1) (N := 6) hx hb hts iw_X1 hown hK hP 0 rfl rfl 1 (by decide) (hts _ w_fl_X1_21) (fun _ h9 => h9) rfl dX1_copyFrom_12 ?_
  refine lv_aload_n hx hb dX1_copyFrom_15 rfl (lv_at hl 1 rfl) ?_
  refine va_get (D := D) (ci := 1) (v := .ref (b 2)) (C := RX1) (T := TX1) (N := 6) hx hb hts iw_X1 hown hK hP 18 rfl rfl 1 (by decide) (hts _ w_fl_X1_21) (fun _ h9 => h9) rfl dX1_copyFrom_16 ?_
  refine w_v (sX3_copyFrom (sX4_copyFrom O P) P) (va_runV (As := [.ref (b 2)]) (rest := []) ⟨hx, hb, hml, hown, hts⟩ (c_X3_copyFrom l D cs a b (sX4_copyFrom O P) P hd) (cwV 1 hts (good_V w_ml_X1_53 w_im_X3_copyFrom w_se_X3_copyFrom w_in_X3 w_co_X3_copyFrom) rfl rfl rfl ⟨rfl, hd_X3_copyFrom⟩ ⟨Nat.le_of_ble_eq_true rfl, Nat.le_of_ble_eq_true rfl⟩) (pe_W (C := RX3) (T := TX3) (N := 8) (ci := 3) (q0 := 2) hP hE rfl rfl) rfl rfl hl.1 rfl (lv_room (Nat.le_of_ble_eq_true rfl)) dX1_copyFrom_19 ⟨Nat.zero_le _, Nat.zero_le _⟩) hS (fun _ _ h => h) (fun _ h => h) (fun t locs hB hz hk hS => ?_)
  have hP : va_P D vwC ((ofW cs a (sX3_copyFrom (sX4_copyFrom O P) P)) ++ (ofW cs b P)) t.heap := hB
  refine lv_aload_n hx hb dX1_copyFrom_22 rfl (lv_at hl 0 rfl) ?_
  refine va_get (D := D) (ci := 1) (v := .ref (a 3)) (C := RX1) (T := TX1) (N := 6) hx hb hts iw_X1 hown hK hP 0 rfl rfl 2 (by decide) (hts _ w_fl_X1_28) (fun _ h9 => h9) rfl dX1_copyFrom_23 ?_
  refine lv_aload_n hx hb dX1_copyFrom_26 rfl (lv_at hl 1 rfl) ?_
  refine va_get (D := D) (ci := 1) (v := .ref (b 3)) (C := RX1) (T := TX1) (N := 6) hx hb hts iw_X1 hown hK hP 18 rfl rfl 2 (by decide) (hts _ w_fl_X1_28) (fun _ h9 => h9) rfl dX1_copyFrom_27 ?_
  refine w_v (sX6_copyFrom (sX3_copyFrom (sX4_copyFrom O P) P) P) (va_runV (As := [.ref (b 3)]) (rest := []) ⟨hx, hb, hml, hown, hts⟩ (c_X6_copyFrom l D cs a b (sX3_copyFrom (sX4_copyFrom O P) P) P hd) (cwV 1 hts (good_V w_ml_X1_56 w_im_X6_copyFrom w_se_X6_copyFrom w_in_X6 w_co_X6_copyFrom) rfl rfl rfl ⟨rfl, hd_X6_copyFrom⟩ ⟨Nat.le_of_ble_eq_true rfl, Nat.le_of_ble_eq_true rfl⟩) (pe_W (C := RX6) (T := TX6) (N := 5) (ci := 6) (q0 := 3) hP hE rfl rfl) rfl rfl hl.1 rfl (lv_room (Nat.le_of_ble_eq_true rfl)) dX1_copyFrom_30 ⟨Nat.zero_le _, Nat.zero_le _⟩) hS (fun _ _ h => h) (fun _ h => h) (fun t locs hB hz hk hS => ?_)
  have hP : va_P D vwC ((ofW cs a (sX6_copyFrom (sX3_copyFrom (sX4_copyFrom O P) P) P)) ++ (ofW cs b P)) t.heap := hB
  refine lv_aload_n hx hb dX1_copyFrom_33 rfl (lv_at hl 1 rfl) ?_
  refine va_get (D := D) (ci := 1) (v := .ref (b 4)) (C := RX1) (T := TX1) (N := 6) hx hb hts iw_X1 hown hK hP 18 rfl rfl 3 (by decide) (hts _ w_fl_X1_32) (fun _ h9 => h9) rfl dX1_copyFrom_34 ?_
  refine lv_iconst (v := 0) hx hb dX1_copyFrom_37 (by decide) ?_
  refine lv_aload_n hx hb dX1_copyFrom_38 rfl (lv_at hl 0 rfl) ?_
  refine va_get (D := D) (ci := 1) (v := .ref (a 4)) (C := RX1) (T := TX1) (N := 6) hx hb hts iw_X1 hown hK hP 0 rfl rfl 3 (by decide) (hts _ w_fl_X1_32) (fun _ h9 => h9) rfl dX1_copyFrom_39 ?_
  refine lv_iconst (v := 0) hx hb dX1_copyFrom_42 (by decide) ?_
  refine lv_iconst (v := 3) hx hb dX1_copyFrom_43 (by decide) ?_
  refine va_copyi (c0 := cs 0) (c1 := cs 0) (n0 := 3) (n1 := 3) (f := (P.2 4)) (g := ((sX6_copyFrom (sX3_copyFrom (sX4_copyFrom O P) P) P).2 4)) (ty := .int) hx hb (by rw [hml, hl.1]) hown (hts _ w_ml_X1_59) (hts _ w_na_arraycopy) (hts _ w_st_arraycopy) (hts _ w_in_J10) hK hP (of2_D cs (sX6_copyFrom (sX3_copyFrom (sX4_copyFrom O P) P) P) P hd) hS 22 4 0 0 rfl rfl rfl rfl rfl (by decide) (by decide) (by decide) (by decide) (by decide) (fun _ _ => rfl) (Nat.le_of_ble_eq_true rfl) (Nat.le_of_ble_eq_true rfl) dX1_copyFrom_44 (fun H locs hP _ hS => ?_)
  have hP : va_P D vwC ((ofW cs a (stA (sX6_copyFrom (sX3_copyFrom (sX4_copyFrom O P) P) P) 4 (va_cpy (P.2 4) ((sX6_copyFrom (sX3_copyFrom (sX4_copyFrom O P) P) P).2 4) 0 0 3))) ++ (ofW cs b P)) H := hP
  refine lv_aload_n hx hb dX1_copyFrom_47 rfl (lv_at hl 0 rfl) ?_
  refine lv_aload_n hx hb dX1_copyFrom_48 rfl (lv_at hl 1 rfl) ?_
  refine va_get (D := D) (ci := 1) (v := .int (P.1 5)) (C := RX1) (T := TX1) (N := 6) hx hb hts iw_X1 hown hK hP 18 rfl rfl 4 (by decide) (hts _ w_fl_X1_42) (fun _ h9 => h9) rfl dX1_copyFrom_49 ?_
  refine va_put (D := D) (ci := 1) (v := .int (P.1 5)) (ty := .int) (C := RX1) (T := TX1) (N := 6) hx hb hts iw_X1 tyX1 tyX1_ok nmX1 hown hK hP (of2_D cs (stA (sX6_copyFrom (sX3_copyFrom (sX4_copyFrom O P) P) P) 4 (va_cpy (P.2 4) ((sX6_copyFrom (sX3_copyFrom (sX4_copyFrom O P) P) P).2 4) 0 0 3)) P hd) hS 0 rfl rfl 4 (by decide) (hts _ w_fl_X1_42) (fun _ h9 => h9) rfl (by decide +kernel) rfl rfl (Nat.le_of_ble_eq_true rfl) dX1_copyFrom_52 (fun H locs hP _ hS => ?_)
  have hP : va_P D vwC ((ofW cs a (stS (stA (sX6_copyFrom (sX3_copyFrom (sX4_copyFrom O P) P) P) 4 (va_cpy (P.2 4) ((sX6_copyFrom (sX3_copyFrom (sX4_copyFrom O P) P) P).2 4) 0 0 3)) 5 (P.1 5))) ++ (ofW cs b P)) H := hP
  refine lv_aload_n hx hb dX1_copyFrom_55 rfl (lv_at hl 0 rfl) ?_
  refine lv_aload_n hx hb dX1_copyFrom_56 rfl (lv_at hl 1 rfl) ?_
  refine va_get (D := D) (ci := 1) (v := .int (P.1 6)) (C := RX1) (T := TX1) (N := 6) hx hb hts iw_X1 hown hK hP 18 rfl rfl 5 (by decide) (hts _ w_fl_X1_46) (fun _ h9 => h9) rfl dX1_copyFrom_57 ?_
  refine va_put (D := D) (ci := 1) (v := .int (P.1 6)) (ty := .int) (C := RX1) (T := TX1) (N := 6) hx hb hts iw_X1 tyX1 tyX1_ok nmX1 hown hK hP (of2_D cs (stS (stA (sX6_copyFrom (sX3_copyFrom (sX4_copyFrom O P) P) P) 4 (va_cpy (P.2 4) ((sX6_copyFrom (sX3_copyFrom (sX4_copyFrom O P) P) P).2 4) 0 0 3)) 5 (P.1 5)) P hd) hS 0 rfl rfl 5 (by decide) (hts _ w_fl_X1_46) (fun _ h9 => h9) rfl (by decide +kernel) rfl rfl (Nat.le_of_ble_eq_true rfl) dX1_copyFrom_60 (fun H locs hP _ hS => ?_)
  have hP : va_P D vwC ((ofW cs a (stS (stS (stA (sX6_copyFrom (sX3_copyFrom (sX4_copyFrom O P) P) P) 4 (va_cpy (P.2 4) ((sX6_copyFrom (sX3_copyFrom (sX4_copyFrom O P) P) P).2 4) 0 0 3)) 5 (P.1 5)) 6 (P.1 6))) ++ (ofW cs b P)) H := hP
  exact W.vret hx hb hr (fun t ht hW => ⟨⟨(stS (stS (stA (sX6_copyFrom (sX3_copyFrom (sX4_copyFrom O P) P) P) 4 (va_cpy (P.2 4) ((sX6_copyFrom (sX3_copyFrom (sX4_copyFrom O P) P) P).2 4) 0 0 3)) 5 (P.1 5)) 6 (P.1 6)), rfl, hv, pw ht hP⟩, hS.F ht⟩) hS.2.2 dX1_copyFrom_63 (hlocks := hlocks)
