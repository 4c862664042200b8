theorem hd_X7_draw : yX7_draw.cls ≠ "java/lang/invoke/MethodHandle" ∧ yX7_draw.cls ≠ "java/lang/invoke/VarHandle" ∧ (parseMethodDescriptor yX7_draw.desc).map (fun d => d.parameters.length) = some 1 := by decide +kernel
def sX7_draw (Os : Nat → OF) (T : OF) (p1 : Int32) : Nat × Int32 × TSt := (if (sX7_keptAnswer (va_up ((sX0_hold Os T).1) 0 ((sX1_addSheet (((sX0_hold Os T).1) 0) p1).2)) ((sX0_hold Os T).2) ((sX1_addSheet (((sX0_hold Os T).1) 0) p1).1)).1 = 0 then (0, (sX7_keptAnswer (va_up ((sX0_hold Os T).1) 0 ((sX1_addSheet (((sX0_hold Os T).1) 0) p1).2)) ((sX0_hold Os T).2) ((sX1_addSheet (((sX0_hold Os T).1) 0) p1).1)).2.1, (((sX7_keptAnswer (va_up ((sX0_hold Os T).1) 0 ((sX1_addSheet (((sX0_hold Os T).1) 0) p1).2)) ((sX0_hold Os T).2) ((sX1_addSheet (((sX0_hold Os T).1) 0) p1).1)).2.2.1), ((sX7_keptAnswer (va_up ((sX0_hold Os T).1) 0 ((sX1_addSheet (((sX0_hold Os T).1) 0) p1).2)) ((sX0_hold Os T).2) ((sX1_addSheet (((sX0_hold Os T).1) 0) p1).1)).2.2.2))) else ((sX7_keptAnswer (va_up ((sX0_hold Os T).1) 0 ((sX1_addSheet (((sX0_hold Os T).1) 0) p1).2)) ((sX0_hold Os T).2) ((sX1_addSheet (((sX0_hold Os T).1) 0) p1).1)).1, 0, (((sX7_keptAnswer (va_up ((sX0_hold Os T).1) 0 ((sX1_addSheet (((sX0_hold Os T).1) 0) p1).2)) ((sX0_hold Os T).2) ((sX1_addSheet (((sX0_hold Os T).1) 0) p1).1)).2.2.1), ((sX7_keptAnswer (va_up ((sX0_hold Os T).1) 0 ((sX1_addSheet (((sX0_hold Os T).1) 0) p1).2)) ((sX0_hold Os T).2) ((sX1_addSheet (((sX0_hold Os T).1) 0) p1).1)).2.2.2))))
set_option maxHeartbeats 4000000 in
set_option maxRecDepth 100000 in
theorem c_X7_draw (l : Launch) (D : va_G) (cs : Nat → ClassId) (z : Nat → Nat) (A : Nat → Nat → Nat) (adK adV : Nat → Nat) (Os : Nat → OF) (T : OF) (p1 : Int32) (hd : tD z A) (hlst : l.stackTraces = false) (hn : vp_in (T.1 4) 15) : vx_Met l yX7_draw (wc yX7_draw cX7_draw 2 (some .int)) ({ frames := 7, cells := 1, slots := 6, locals := 132 } : Room) (va_Pc [.ref (z 0), .int p1] (TE D cs z A adK adV Os T)) (xwQ D cs z A (sX7_draw Os T p1)) (xwX D cs z A (sX7_draw Os T p1)) 1 6 (tA z A) := by
  obtain ⟨v, hv⟩ : ∃ v, sX7_draw Os T p1 = v := ⟨_, rfl⟩
  rw [hv]
  refine met_x (lv := [(0, .ref (z 0)), (1, .int p1)]) (by decide) (Nat.le_of_ble_eq_true rfl) rfl ?_
  intro p e s m args below meth c ls hx hb hr hml hts hown hlocks hout hB0 hl
  obtain ⟨⟨hT, hE⟩, hXE⟩ := hB0
  have hown : s.vm.findClass RX7 = some m.cls := hown
  have hK := hE.1
  have hS : va_S (tA z A) s.heap s.heap [] := va_S.rf
  unfold sX7_draw at hv
  refine lv_aload_n hx hb dX7_draw_0 rfl (lv_at hl 0 rfl) ?_
  refine va_get (D := D) (ci := 7) (v := .ref (z 6)) (C := RX7) (T := TX7) (N := 5) hx hb hts iw_X7 hown hK hT.1 0 rfl rfl 3 (by decide) (hts _ w_fl_X7_29) (fun _ h9 => h9) rfl dX7_draw_1 ?_
  refine lv_aload_n hx hb dX7_draw_4 rfl (lv_at hl 0 rfl) ?_
  refine va_get (D := D) (ci := 7) (v := .ref (A 0 0)) (C := RX7) (T := TX7) (N := 5) hx hb hts iw_X7 hown hK hT.1 0 rfl rfl 1 (by decide) (hts _ w_fl_X7_19) (fun _ h9 => h9) rfl dX7_draw_5 ?_
  refine w_v (sX0_hold Os T) (va_runV (As := [.ref (A 0 0)]) (rest := []) ⟨hx, hb, hml, hown, hts⟩ (c_X0_hold l D cs z A adK adV Os T hd hn) (cwV 1 hts (good_V w_ml_X7_161 w_im_X0_hold w_se_X0_hold w_in_X0 w_co_X0_hold) rfl rfl rfl ⟨rfl, hd_X0_hold⟩ ⟨Nat.le_of_ble_eq_true rfl, Nat.le_of_ble_eq_true rfl⟩) (te_V (C := RX0) (T9 := TX0) (N := 3) (ci := 0) (q0 := 6) hT hE hXE hS rfl rfl) rfl rfl hl.1 rfl (lv_room (Nat.le_of_ble_eq_true rfl)) dX7_draw_8 ⟨Nat.le_of_ble_eq_true rfl, Nat.le_of_ble_eq_true rfl⟩) hS (fun _ _ h => h) (fun _ h => h) (fun t locs hB hz hk hS => ?_)
  have hT : tsP D cs z A ((sX0_hold Os T).1) ((sX0_hold Os T).2) t.heap := hB
  refine lv_aload_n hx hb dX7_draw_11 rfl (lv_at hl 0 rfl) ?_
  refine lv_aload_n hx hb dX7_draw_12 rfl (lv_at hl 0 rfl) ?_
  refine va_get (D := D) (ci := 7) (v := .ref (A 0 0)) (C := RX7) (T := TX7) (N := 5) hx hb hts iw_X7 hown hK hT.1 0 rfl rfl 1 (by decide) (hts _ w_fl_X7_19) (fun _ h9 => h9) rfl dX7_draw_13 ?_
  refine lv_iload_n hx hb dX7_draw_16 rfl (lv_at hl 1 rfl) ?_
  refine w_i (sX1_addSheet (((sX0_hold Os T).1) 0) p1) (va_runV (As := [.int p1]) (rest := [.ref (z 0)]) ⟨hx, hb, hml, hown, hts⟩ (c_X1_addSheet l D cs (A 0) (((sX0_hold Os T).1) 0) p1 (hd.o (k := 0) (by decide))) (cwV 1 hts (good_V w_ml_X7_165 w_im_X1_addSheet w_se_X1_addSheet w_in_X1 w_co_X1_addSheet) rfl rfl rfl ⟨rfl, hd_X1_addSheet⟩ ⟨Nat.le_of_ble_eq_true rfl, Nat.le_of_ble_eq_true rfl⟩) (pe_W (C := RX1) (T := TX1) (N := 6) (ci := 1) (q0 := 0) (hT.2 0 (by decide)) hE rfl rfl) rfl rfl hl.1 rfl (lv_room (Nat.le_of_ble_eq_true rfl)) dX7_draw_17 ⟨Nat.le_of_ble_eq_true rfl, Nat.le_of_ble_eq_true rfl⟩) hS (fun _ _ h => Or.inr ⟨0, by decide, h⟩) (fun _ h => Or.inr ⟨0, by decide, h⟩) (fun t locs hB hz hk hS => ?_)
  have hT : tsP D cs z A (va_up ((sX0_hold Os T).1) 0 ((sX1_addSheet (((sX0_hold Os T).1) 0) p1).2)) ((sX0_hold Os T).2) t.heap := t_of hd hT (by decide) hk hB
  refine x_w (sX7_keptAnswer (va_up ((sX0_hold Os T).1) 0 ((sX1_addSheet (((sX0_hold Os T).1) 0) p1).2)) ((sX0_hold Os T).2) ((sX1_addSheet (((sX0_hold Os T).1) 0) p1).1)) (vx_runV (As := [.int ((sX1_addSheet (((sX0_hold Os T).1) 0) p1).1)]) (rest := []) ⟨hx, hb, hml, hown, hts⟩ (c_X7_keptAnswer l D cs z A adK adV (va_up ((sX0_hold Os T).1) 0 ((sX1_addSheet (((sX0_hold Os T).1) 0) p1).2)) ((sX0_hold Os T).2) ((sX1_addSheet (((sX0_hold Os T).1) 0) p1).1) hd hlst) (cwV 1 hts (good_V w_ml_X7_168 w_im_X7_keptAnswer w_se_X7_keptAnswer w_in_X7 w_co_X7_keptAnswer) rfl rfl rfl ⟨rfl, hd_X7_keptAnswer⟩ ⟨Nat.le_of_ble_eq_true rfl, Nat.le_of_ble_eq_true rfl⟩) (te_V (C := RX7) (T9 := TX7) (N := 5) (ci := 7) (q0 := 0) hT hE hXE hS rfl rfl) rfl rfl hl.1 rfl (lv_room (Nat.le_of_ble_eq_true rfl)) dX7_draw_20 ⟨Nat.le_of_ble_eq_true rfl, Nat.le_of_ble_eq_true rfl⟩) hS (fun _ _ h => h) (fun _ h => h) (fun c20 ce q9 t locs hT hz hk hS e1 e2 e3 => ?_) (fun c20 t locs hT hz hk hS => ?_)
  · have hv := (if_neg c20).symm.trans hv
    exact x_out hout hlocks e1 e2 e3 (xc_w (k := (sX7_keptAnswer (va_up ((sX0_hold Os T).1) 0 ((sX1_addSheet (((sX0_hold Os T).1) 0) p1).2)) ((sX0_hold Os T).2) ((sX1_addSheet (((sX0_hold Os T).1) 0) p1).1)).1) c20 hv hT hS) hS.2.2 (Nat.le_of_ble_eq_true rfl) (Nat.le_of_ble_eq_true rfl)
  · have hv := (if_pos c20).symm.trans hv
    refine W.widen (k := 1) (n := 6) (Nat.le_of_ble_eq_true rfl) (Nat.le_of_ble_eq_true rfl) ?_
    refine vx_ret ?_
    exact W.iret (v := (sX7_keptAnswer (va_up ((sX0_hold Os T).1) 0 ((sX1_addSheet (((sX0_hold Os T).1) 0) p1).2)) ((sX0_hold Os T).2) ((sX1_addSheet (((sX0_hold Os T).1) 0) p1).1)).2.1) hx hb hr (fun t ht hW => ⟨⟨(sX7_keptAnswer (va_up ((sX0_hold Os T).1) 0 ((sX1_addSheet (((sX0_hold Os T).1) 0) p1).2)) ((sX0_hold Os T).2) ((sX1_addSheet (((sX0_hold Os T).1) 0) p1).1)).2.1, (((sX7_keptAnswer (va_up ((sX0_hold Os T).1) 0 ((sX1_addSheet (((sX0_hold Os T).1) 0) p1).2)) ((sX0_hold Os T).2) ((sX1_addSheet (((sX0_hold Os T).1) 0) p1).1)).2.2.1), ((sX7_keptAnswer (va_up ((sX0_hold Os T).1) 0 ((sX1_addSheet (((sX0_hold Os T).1) 0) p1).2)) ((sX0_hold Os T).2) ((sX1_addSheet (((sX0_hold Os T).1) 0) p1).1)).2.2.2)), rfl, xw_eq hv, tw ht hT⟩, hS.F ht⟩) hS.2.2 dX7_draw_23 (hlocks := hlocks)
theorem hd_X7_revise : yX7_revise.cls ≠ "java/lang/invoke/MethodHandle" ∧ yX7_revise.cls ≠ "java/lang/invoke/VarHandle" ∧ (parseMethodDescriptor yX7_revise.desc).map (fun d => d.parameters.length) = some 2 := by decide +kernel
def sX7_revise (Os : Nat → OF) (T : OF) (p1 : Int32) (p2 : Int32) : Nat × Int32 × TSt := (if (sX7_keptAnswer (va_up ((sX0_hold Os T).1) 0 ((sX1_reviseSheet (((sX0_hold Os T).1) 0) p1 p2).2)) ((sX0_hold Os T).2) ((sX1_reviseSheet (((sX0_hold Os T).1) 0) p1 p2).1)).1 = 0 then (0, (sX7_keptAnswer (va_up ((sX0_hold Os T).1) 0 ((sX1_reviseSheet (((sX0_hold Os T).1) 0) p1 p2).2)) ((sX0_hold Os T).2) ((sX1_reviseSheet (((sX0_hold Os T).1) 0) p1 p2).1)).2.1, (((sX7_keptAnswer (va_up ((sX0_hold Os T).1) 0 ((sX1_reviseSheet (((sX0_hold Os T).1) 0) p1 p2).2)) ((sX0_hold Os T).2) ((sX1_reviseSheet (((sX0_hold Os T).1) 0) p1 p2).1)).2.2.1), ((sX7_keptAnswer (va_up ((sX0_hold Os T).1) 0 ((sX1_reviseSheet (((sX0_hold Os T).1) 0) p1 p2).2)) ((sX0_hold Os T).2) ((sX1_reviseSheet (((sX0_hold Os T).1) 0) p1 p2).1)).2.2.2))) else ((sX7_keptAnswer (va_up ((sX0_hold Os T).1) 0 ((sX1_reviseSheet (((sX0_hold Os T).1) 0) p1 p2).2)) ((sX0_hold Os T).2) ((sX1_reviseSheet (((sX0_hold Os T).1) 0) p1 p2).1)).1, 0, (((sX7_keptAnswer (va_up ((sX0_hold Os T).1) 0 ((sX1_reviseSheet (((sX0_hold Os T).1) 0) p1 p2).2)) ((sX0_hold Os T).2) ((sX1_reviseSheet (((sX0_hold Os T).1) 0) p1 p2).1)).2.2.1), ((sX7_keptAnswer (va_up ((sX0_hold Os T).1) 0 ((sX1_reviseSheet (((sX0_hold Os T).1) 0) p1 p2).2)) ((sX0_hold Os T).2) ((sX1_reviseSheet (((sX0_hold Os T).1) 0) p1 p2).1)).2.2.2))))
set_option maxHeartbeats 4000000 in
set_option maxRecDepth 100000 in
theorem c_X7_revise (l : Launch) (D : va_G) (cs : Nat → ClassId) (z : Nat → Nat) (A : Nat → Nat → Nat) (adK adV : Nat → Nat) (Os : Nat → OF) (T : OF) (p1 : Int32) (p2 : Int32) (hd : tD z A) (hlst : l.stackTraces = false) (hn : vp_in (T.1 4) 15) : vx_Met l yX7_revise (wc yX7_revise cX7_revise 3 (some .int)) ({ frames := 7, cells := 1, slots := 6, locals := 132 } : Room) (va_Pc [.ref (z 0), .int p1, .int p2] (TE D cs z A adK adV Os T)) (xwQ D cs z A (sX7_revise Os T p1 p2)) (xwX D cs z A (sX7_revise Os T p1 p2)) 1 6 (tA z A) := by
  obtain ⟨v, hv⟩ : ∃ v, sX7_revise Os T p1 p2 = v := ⟨_, rfl⟩
  rw [hv]
  refine met_x (lv := [(0, .ref (z 0)), (1, .int p1), (2, .int p2)]) (by decide) (Nat.le_of_ble_eq_true rfl) rfl ?_
  intro p e s m args below meth c ls hx hb hr hml hts hown hlocks hout hB0 hl
  obtain ⟨⟨hT, hE⟩, hXE⟩ := hB0
  have hown : s.vm.findClass RX7 = some m.cls := hown
  have hK := hE.1
  have hS : va_S (tA z A) s.heap s.heap [] := va_S.rf
  unfold sX7_revise at hv
  refine lv_aload_n hx hb dX7_revise_0 rfl (lv_at hl 0 rfl) ?_
  refine va_get (D := D) (ci := 7) (v := .ref (z 6)) (C := RX7) (T := TX7) (N := 5) hx hb hts iw_X7 hown hK hT.1 0 rfl rfl 3 (by decide) (hts _ w_fl_X7_29) (fun _ h9 => h9) rfl dX7_revise_1 ?_
  refine lv_aload_n hx hb dX7_revise_4 rfl (lv_at hl 0 rfl) ?_
  refine va_get (D := D) (ci := 7) (v := .ref (A 0 0)) (C := RX7) (T := TX7) (N := 5) hx hb hts iw_X7 hown hK hT.1 0 rfl rfl 1 (by decide) (hts _ w_fl_X7_19) (fun _ h9 => h9) rfl dX7_revise_5 ?_
  refine w_v (sX0_hold Os T) (va_runV (As := [.ref (A 0 0)]) (rest := []) ⟨hx, hb, hml, hown, hts⟩ (c_X0_hold l D cs z A adK adV Os T hd hn) (cwV 1 hts (good_V w_ml_X7_161 w_im_X0_hold w_se_X0_hold w_in_X0 w_co_X0_hold) rfl rfl rfl ⟨rfl, hd_X0_hold⟩ ⟨Nat.le_of_ble_eq_true rfl, Nat.le_of_ble_eq_true rfl⟩) (te_V (C := RX0) (T9 := TX0) (N := 3) (ci := 0) (q0 := 6) hT hE hXE hS rfl rfl) rfl rfl hl.1 rfl (lv_room (Nat.le_of_ble_eq_true rfl)) dX7_revise_8 ⟨Nat.le_of_ble_eq_true rfl, Nat.le_of_ble_eq_true rfl⟩) hS (fun _ _ h => h) (fun _ h => h) (fun t locs hB hz hk hS => ?_)
  have hT : tsP D cs z A ((sX0_hold Os T).1) ((sX0_hold Os T).2) t.heap := hB
  refine lv_aload_n hx hb dX7_revise_11 rfl (lv_at hl 0 rfl) ?_
  refine lv_aload_n hx hb dX7_revise_12 rfl (lv_at hl 0 rfl) ?_
  refine va_get (D := D) (ci := 7) (v := .ref (A 0 0)) (C := RX7) (T := TX7) (N := 5) hx hb hts iw_X7 hown hK hT.1 0 rfl rfl 1 (by decide) (hts _ w_fl_X7_19) (fun _ h9 => h9) rfl dX7_revise_13 ?_
  refine lv_iload_n hx hb dX7_revise_16 rfl (lv_at hl 1 rfl) ?_
  refine lv_iload_n hx hb dX7_revise_17 rfl (lv_at hl 2 rfl) ?_
  refine w_i (sX1_reviseSheet (((sX0_hold Os T).1) 0) p1 p2) (va_runV (As := [.int p1, .int p2]) (rest := [.ref (z 0)]) ⟨hx, hb, hml, hown, hts⟩ (c_X1_reviseSheet l D cs (A 0) (((sX0_hold Os T).1) 0) p1 p2 (hd.o (k := 0) (by decide))) (cwV 2 hts (good_V w_ml_X7_171 w_im_X1_reviseSheet w_se_X1_reviseSheet w_in_X1 w_co_X1_reviseSheet) rfl rfl rfl ⟨rfl, hd_X1_reviseSheet⟩ ⟨Nat.le_of_ble_eq_true rfl, Nat.le_of_ble_eq_true rfl⟩) (pe_W (C := RX1) (T := TX1) (N := 6) (ci := 1) (q0 := 0) (hT.2 0 (by decide)) hE rfl rfl) rfl rfl hl.1 rfl (lv_room (Nat.le_of_ble_eq_true rfl)) dX7_revise_18 ⟨Nat.le_of_ble_eq_true rfl, Nat.le_of_ble_eq_true rfl⟩) hS (fun _ _ h => Or.inr ⟨0, by decide, h⟩) (fun _ h => Or.inr ⟨0, by decide, h⟩) (fun t locs hB hz hk hS => ?_)
  have hT : tsP D cs z A (va_up ((sX0_hold Os T).1) 0 ((sX1_reviseSheet (((sX0_hold Os T).1) 0) p1 p2).2)) ((sX0_hold Os T).2) t.heap := t_of hd hT (by decide) hk hB
  refine x_w (sX7_keptAnswer (va_up ((sX0_hold Os T).1) 0 ((sX1_reviseSheet (((sX0_hold Os T).1) 0) p1 p2).2)) ((sX0_hold Os T).2) ((sX1_reviseSheet (((sX0_hold Os T).1) 0) p1 p2).1)) (vx_runV (As := [.int ((sX1_reviseSheet (((sX0_hold Os T).1) 0) p1 p2).1)]) (rest := []) ⟨hx, hb, hml, hown, hts⟩ (c_X7_keptAnswer l D cs z A adK adV (va_up ((sX0_hold Os T).1) 0 ((sX1_reviseSheet (((sX0_hold Os T).1) 0) p1 p2).2)) ((sX0_hold Os T).2) ((sX1_reviseSheet (((sX0_hold Os T).1) 0) p1 p2).1) hd hlst) (cwV 1 hts (good_V w_ml_X7_168 w_im_X7_keptAnswer w_se_X7_keptAnswer w_in_X7 w_co_X7_keptAnswer) rfl rfl rfl ⟨rfl, hd_X7_keptAnswer⟩ ⟨Nat.le_of_ble_eq_true rfl, Nat.le_of_ble_eq_true rfl⟩) (te_V (C := RX7) (T9 := TX7) (N := 5) (ci := 7) (q0 := 0) hT hE hXE hS rfl rfl) rfl rfl hl.1 rfl (lv_room (Nat.le_of_ble_eq_true rfl)) dX7_revise_21 ⟨Nat.le_of_ble_eq_true rfl, Nat.le_of_ble_eq_true rfl⟩) hS (fun _ _ h => h) (fun _ h => h) (fun c21 ce q9 t locs hT hz hk hS e1 e2 e3 => ?_) (fun c21 t locs hT hz hk hS => ?_)
  · have hv := (if_neg c21).symm.trans hv
    exact x_out hout hlocks e1 e2 e3 (xc_w (k := (sX7_keptAnswer (va_up ((sX0_hold Os T).1) 0 ((sX1_reviseSheet (((sX0_hold Os T).1) 0) p1 p2).2)) ((sX0_hold Os T).2) ((sX1_reviseSheet (((sX0_hold Os T).1) 0) p1 p2).1)).1) c21 hv hT hS) hS.2.2 (Nat.le_of_ble_eq_true rfl) (Nat.le_of_ble_eq_true rfl)
  · have hv := (if_pos c21).symm.trans hv
    refine W.widen (k := 1) (n := 6) (Nat.le_of_ble_eq_true rfl) (Nat.le_of_ble_eq_true rfl) ?_
    refine vx_ret ?_
    exact W.iret (v := (sX7_keptAnswer (va_up ((sX0_hold Os T).1) 0 ((sX1_reviseSheet (((sX0_hold Os T).1) 0) p1 p2).2)) ((sX0_hold Os T).2) ((sX1_reviseSheet (((sX0_hold Os T).1) 0) p1 p2).1)).2.1) hx hb hr (fun t ht hW => ⟨⟨(sX7_keptAnswer (va_up ((sX0_hold Os T).1) 0 ((sX1_reviseSheet (((sX0_hold Os T).1) 0) p1 p2).2)) ((sX0_hold Os T).2) ((sX1_reviseSheet (((sX0_hold Os T).1) 0) p1 p2).1)).2.1, (((sX7_keptAnswer (va_up ((sX0_hold Os T).1) 0 ((sX1_reviseSheet (((sX0_hold Os T).1) 0) p1 p2).2)) ((sX0_hold Os T).2) ((sX1_reviseSheet (((sX0_hold Os T).1) 0) p1 p2).1)).2.2.1), ((sX7_keptAnswer (va_up ((sX0_hold Os T).1) 0 ((sX1_reviseSheet (((sX0_hold Os T).1) 0) p1 p2).2)) ((sX0_hold Os T).2) ((sX1_reviseSheet (((sX0_hold Os T).1) 0) p1 p2).1)).2.2.2)), rfl, xw_eq hv, tw ht hT⟩, hS.F ht⟩) hS.2.2 dX7_revise_24 (hlocks := hlocks)
theorem hd_X7_check : yX7_check.cls ≠ "java/lang/invoke/MethodHandle" ∧ yX7_check.cls ≠ "java/lang/invoke/VarHandle" ∧ (parseMethodDescriptor yX7_check.desc).map (fun d => d.parameters.length) = some 1 := by decide +kernel
def sX7_check (Os : Nat → OF) (T : OF) (p1 : Int32) : Nat × Int32 × TSt := (if (sX7_keptAnswer (va_up ((sX0_hold Os T).1) 0 ((sX1_checkSheet (((sX0_hold Os T).1) 0) p1).2)) ((sX0_hold Os T).2) ((sX1_checkSheet (((sX0_hold Os T).1) 0) p1).1)).1 = 0 then (0, (sX7_keptAnswer (va_up ((sX0_hold Os T).1) 0 ((sX1_checkSheet (((sX0_hold Os T).1) 0) p1).2)) ((sX0_hold Os T).2) ((sX1_checkSheet (((sX0_hold Os T).1) 0) p1).1)).2.1, (((sX7_keptAnswer (va_up ((sX0_hold Os T).1) 0 ((sX1_checkSheet (((sX0_hold Os T).1) 0) p1).2)) ((sX0_hold Os T).2) ((sX1_checkSheet (((sX0_hold Os T).1) 0) p1).1)).2.2.1), ((sX7_keptAnswer (va_up ((sX0_hold Os T).1) 0 ((sX1_checkSheet (((sX0_hold Os T).1) 0) p1).2)) ((sX0_hold Os T).2) ((sX1_checkSheet (((sX0_hold Os T).1) 0) p1).1)).2.2.2))) else ((sX7_keptAnswer (va_up ((sX0_hold Os T).1) 0 ((sX1_checkSheet (((sX0_hold Os T).1) 0) p1).2)) ((sX0_hold Os T).2) ((sX1_checkSheet (((sX0_hold Os T).1) 0) p1).1)).1, 0, (((sX7_keptAnswer (va_up ((sX0_hold Os T).1) 0 ((sX1_checkSheet (((sX0_hold Os T).1) 0) p1).2)) ((sX0_hold Os T).2) ((sX1_checkSheet (((sX0_hold Os T).1) 0) p1).1)).2.2.1), ((sX7_keptAnswer (va_up ((sX0_hold Os T).1) 0 ((sX1_checkSheet (((sX0_hold Os T).1) 0) p1).2)) ((sX0_hold Os T).2) ((sX1_checkSheet (((sX0_hold Os T).1) 0) p1).1)).2.2.2))))
set_option maxHeartbeats 4000000 in
set_option maxRecDepth 100000 in
theorem c_X7_check (l : Launch) (D : va_G) (cs : Nat → ClassId) (z : Nat → Nat) (A : Nat → Nat → Nat) (adK adV : Nat → Nat) (Os : Nat → OF) (T : OF) (p1 : Int32) (hd : tD z A) (hlst : l.stackTraces = false) (hn : vp_in (T.1 4) 15) : vx_Met l yX7_check (wc yX7_check cX7_check 2 (some .int)) ({ frames := 7, cells := 1, slots := 6, locals := 132 } : Room) (va_Pc [.ref (z 0), .int p1] (TE D cs z A adK adV Os T)) (xwQ D cs z A (sX7_check Os T p1)) (xwX D cs z A (sX7_check Os T p1)) 1 6 (tA z A) := by
  obtain ⟨v, hv⟩ : ∃ v, sX7_check Os T p1 = v := ⟨_, rfl⟩
  rw [hv]
  refine met_x (lv := [(0, .ref (z 0)), (1, .int p1)]) (by decide) (Nat.le_of_ble_eq_true rfl) rfl ?_
  intro p e s m args below meth c ls hx hb hr hml hts hown hlocks hout hB0 hl
  obtain ⟨⟨hT, hE⟩, hXE⟩ := hB0
  have hown : s.vm.findClass RX7 = some m.cls := hown
  have hK := hE.1
  have hS : va_S (tA z A) s.heap s.heap [] := va_S.rf
  unfold sX7_check at hv
  refine lv_aload_n hx hb dX7_check_0 rfl (lv_at hl 0 rfl) ?_
  refine va_get (D := D) (ci := 7) (v := .ref (z 6)) (C := RX7) (T := TX7) (N := 5) hx hb hts iw_X7 hown hK hT.1 0 rfl rfl 3 (by decide) (hts _ w_fl_X7_29) (fun _ h9 => h9) rfl dX7_check_1 ?_
  refine lv_aload_n hx hb dX7_check_4 rfl (lv_at hl 0 rfl) ?_
  refine va_get (D := D) (ci := 7) (v := .ref (A 0 0)) (C := RX7) (T := TX7) (N := 5) hx hb hts iw_X7 hown hK hT.1 0 rfl rfl 1 (by decide) (hts _ w_fl_X7_19) (fun _ h9 => h9) rfl dX7_check_5 ?_
  refine w_v (sX0_hold Os T) (va_runV (As := [.ref (A 0 0)]) (rest := []) ⟨hx, hb, hml, hown, hts⟩ (c_X0_hold l D cs z A adK adV Os T hd hn) (cwV 1 hts (good_V w_ml_X7_161 w_im_X0_hold w_se_X0_hold w_in_X0 w_co_X0_hold) rfl rfl rfl ⟨rfl, hd_X0_hold⟩ ⟨Nat.le_of_ble_eq_true rfl, Nat.le_of_ble_eq_true rfl⟩) (te_V (C := RX0) (T9 := TX0) (N := 3) (ci := 0) (q0 := 6) hT hE hXE hS rfl rfl) rfl rfl hl.1 rfl (lv_room (Nat.le_of_ble_eq_true rfl)) dX7_check_8 ⟨Nat.le_of_ble_eq_true rfl, Nat.le_of_ble_eq_true rfl⟩) hS (fun _ _ h => h) (fun _ h => h) (fun t locs hB hz hk hS => ?_)
  have hT : tsP D cs z A ((sX0_hold Os T).1) ((sX0_hold Os T).2) t.heap := hB
  refine lv_aload_n hx hb dX7_check_11 rfl (lv_at hl 0 rfl) ?_
  refine lv_aload_n hx hb dX7_check_12 rfl (lv_at hl 0 rfl) ?_
  refine va_get (D := D) (ci := 7) (v := .ref (A 0 0)) (C := RX7) (T := TX7) (N := 5) hx hb hts iw_X7 hown hK hT.1 0 rfl rfl 1 (by decide) (hts _ w_fl_X7_19) (fun _ h9 => h9) rfl dX7_check_13 ?_
  refine lv_iload_n hx hb dX7_check_16 rfl (lv_at hl 1 rfl) ?_
  refine w_i (sX1_checkSheet (((sX0_hold Os T).1) 0) p1) (va_runV (As := [.int p1]) (rest := [.ref (z 0)]) ⟨hx, hb, hml, hown, hts⟩ (c_X1_checkSheet l D cs (A 0) (((sX0_hold Os T).1) 0) p1 (hd.o (k := 0) (by decide))) (cwV 1 hts (good_V w_ml_X7_174 w_im_X1_checkSheet w_se_X1_checkSheet w_in_X1 w_co_X1_checkSheet) rfl rfl rfl ⟨rfl, hd_X1_checkSheet⟩ ⟨Nat.le_of_ble_eq_true rfl, Nat.le_of_ble_eq_true rfl⟩) (pe_W (C := RX1) (T := TX1) (N := 6) (ci := 1) (q0 := 0) (hT.2 0 (by decide)) hE rfl rfl) rfl rfl hl.1 rfl (lv_room (Nat.le_of_ble_eq_true rfl)) dX7_check_17 ⟨Nat.le_of_ble_eq_true rfl, Nat.le_of_ble_eq_true rfl⟩) hS (fun _ _ h => Or.inr ⟨0, by decide, h⟩) (fun _ h => Or.inr ⟨0, by decide, h⟩) (fun t locs hB hz hk hS => ?_)
  have hT : tsP D cs z A (va_up ((sX0_hold Os T).1) 0 ((sX1_checkSheet (((sX0_hold Os T).1) 0) p1).2)) ((sX0_hold Os T).2) t.heap := t_of hd hT (by decide) hk hB
  refine x_w (sX7_keptAnswer (va_up ((sX0_hold Os T).1) 0 ((sX1_checkSheet (((sX0_hold Os T).1) 0) p1).2)) ((sX0_hold Os T).2) ((sX1_checkSheet (((sX0_hold Os T).1) 0) p1).1)) (vx_runV (As := [.int ((sX1_checkSheet (((sX0_hold Os T).1) 0) p1).1)]) (rest := []) ⟨hx, hb, hml, hown, hts⟩ (c_X7_keptAnswer l D cs z A adK adV (va_up ((sX0_hold Os T).1) 0 ((sX1_checkSheet (((sX0_hold Os T).1) 0) p1).2)) ((sX0_hold Os T).2) ((sX1_checkSheet (((sX0_hold Os T).1) 0) p1).1) hd hlst) (cwV 1 hts (good_V w_ml_X7_168 w_im_X7_keptAnswer w_se_X7_keptAnswer w_in_X7 w_co_X7_keptAnswer) rfl rfl rfl ⟨rfl, hd_X7_keptAnswer⟩ ⟨Nat.le_of_ble_eq_true rfl, Nat.le_of_ble_eq_true rfl⟩) (te_V (C := RX7) (T9 := TX7) (N := 5) (ci := 7) (q0 := 0) hT hE hXE hS rfl rfl) rfl rfl hl.1 rfl (lv_room (Nat.le_of_ble_eq_true rfl)) dX7_check_20 ⟨Nat.le_of_ble_eq_true rfl, Nat.le_of_ble_eq_true rfl⟩) hS (fun _ _ h => h) (fun _ h => h) (fun c20 ce q9 t locs hT hz hk hS e1 e2 e3 => ?_) (fun c20 t locs hT hz hk hS => ?_)
  · have hv := (if_neg c20).symm.trans hv
    exact x_out hout hlocks e1 e2 e3 (xc_w (k := (sX7_keptAnswer (va_up ((sX0_hold Os T).1) 0 ((sX1_checkSheet (((sX0_hold Os T).1) 0) p1).2)) ((sX0_hold Os T).2) ((sX1_checkSheet (((sX0_hold Os T).1) 0) p1).1)).1) c20 hv hT hS) hS.2.2 (Nat.le_of_ble_eq_true rfl) (Nat.le_of_ble_eq_true rfl)
  · have hv := (if_pos c20).symm.trans hv
    refine W.widen (k := 1) (n := 6) (Nat.le_of_ble_eq_true rfl) (Nat.le_of_ble_eq_true rfl) ?_
    refine vx_ret ?_
    exact W.iret (v := (sX7_keptAnswer (va_up ((sX0_hold Os T).1) 0 ((sX1_checkSheet (((sX0_hold Os T).1) 0) p1).2)) ((sX0_hold Os T).2) ((sX1_checkSheet (((sX0_hold Os T).1) 0) p1).1)).2.1) hx hb hr (fun t ht hW => ⟨⟨(sX7_keptAnswer (va_up ((sX0_hold Os T).1) 0 ((sX1_checkSheet (((sX0_hold Os T).1) 0) p1).2)) ((sX0_hold Os T).2) ((sX1_checkSheet (((sX0_hold Os T).1) 0) p1).1)).2.1, (((sX7_keptAnswer (va_up ((sX0_hold Os T).1) 0 ((sX1_checkSheet (((sX0_hold Os T).1) 0) p1).2)) ((sX0_hold Os T).2) ((sX1_checkSheet (((sX0_hold Os T).1) 0) p1).1)).2.2.1), ((sX7_keptAnswer (va_up ((sX0_hold Os T).1) 0 ((sX1_checkSheet (((sX0_hold Os T).1) 0) p1).2)) ((sX0_hold Os T).2) ((sX1_checkSheet (((sX0_hold Os T).1) 0) p1).1)).2.2.2)), rfl, xw_eq hv, tw ht hT⟩, hS.F ht⟩) hS.2.2 dX7_check_23 (hlocks := hlocks)
theorem hd_X7_print : yX7_print.cls ≠ "java/lang/invoke/MethodHandle" ∧ yX7_print.cls ≠ "java/lang/invoke/VarHandle" ∧ (parseMethodDescriptor yX7_print.desc).map (fun d => d.parameters.length) = some 2 := by decide +kernel
def sX7_print (Os : Nat → OF) (T : OF) (p1 : Int32) (p2 : Int32) : Nat × Int32 × TSt := (if (sX7_keptAnswer (va_up ((sX0_hold Os T).1) 0 ((sX1_addPrint (((sX0_hold Os T).1) 0) p1 p2).2)) ((sX0_hold Os T).2) ((sX1_addPrint (((sX0_hold Os T).1) 0) p1 p2).1)).1 = 0 then (0, (sX7_keptAnswer (va_up ((sX0_hold Os T).1) 0 ((sX1_addPrint (((sX0_hold Os T).1) 0) p1 p2).2)) ((sX0_hold Os T).2) ((sX1_addPrint (((sX0_hold Os T).1) 0) p1 p2).1)).2.1, (((sX7_keptAnswer (va_up ((sX0_hold Os T).1) 0 ((sX1_addPrint (((sX0_hold Os T).1) 0) p1 p2).2)) ((sX0_hold Os T).2) ((sX1_addPrint (((sX0_hold Os T).1) 0) p1 p2).1)).2.2.1), ((sX7_keptAnswer (va_up ((sX0_hold Os T).1) 0 ((sX1_addPrint (((sX0_hold Os T).1) 0) p1 p2).2)) ((sX0_hold Os T).2) ((sX1_addPrint (((sX0_hold Os T).1) 0) p1 p2).1)).2.2.2))) else ((sX7_keptAnswer (va_up ((sX0_hold Os T).1) 0 ((sX1_addPrint (((sX0_hold Os T).1) 0) p1 p2).2)) ((sX0_hold Os T).2) ((sX1_addPrint (((sX0_hold Os T).1) 0) p1 p2).1)).1, 0, (((sX7_keptAnswer (va_up ((sX0_hold Os T).1) 0 ((sX1_addPrint (((sX0_hold Os T).1) 0) p1 p2).2)) ((sX0_hold Os T).2) ((sX1_addPrint (((sX0_hold Os T).1) 0) p1 p2).1)).2.2.1), ((sX7_keptAnswer (va_up ((sX0_hold Os T).1) 0 ((sX1_addPrint (((sX0_hold Os T).1) 0) p1 p2).2)) ((sX0_hold Os T).2) ((sX1_addPrint (((sX0_hold Os T).1) 0) p1 p2).1)).2.2.2))))
set_option maxHeartbeats 4000000 in
set_option maxRecDepth 100000 in
theorem c_X7_print (l : Launch) (D : va_G) (cs : Nat → ClassId) (z : Nat → Nat) (A : Nat → Nat → Nat) (adK adV : Nat → Nat) (Os : Nat → OF) (T : OF) (p1 : Int32) (p2 : Int32) (hd : tD z A) (hlst : l.stackTraces = false) (hn : vp_in (T.1 4) 15) : vx_Met l yX7_print (wc yX7_print cX7_print 3 (some .int)) ({ frames := 7, cells := 1, slots := 6, locals := 132 } : Room) (va_Pc [.ref (z 0), .int p1, .int p2] (TE D cs z A adK adV Os T)) (xwQ D cs z A (sX7_print Os T p1 p2)) (xwX D cs z A (sX7_print Os T p1 p2)) 1 6 (tA z A) := by
  obtain ⟨v, hv⟩ : ∃ v, sX7_print Os T p1 p2 = v := ⟨_, rfl⟩
  rw [hv]
  refine met_x (lv := [(0, .ref (z 0)), (1, .int p1), (2, .int p2)]) (by decide) (Nat.le_of_ble_eq_true rfl) rfl ?_
  intro p e s m args below meth c ls hx hb hr hml hts hown hlocks hout hB0 hl
  obtain ⟨⟨hT, hE⟩, hXE⟩ := hB0
  have hown : s.vm.findClass RX7 = some m.cls := hown
  have hK := hE.1
  have hS : va_S (tA z A) s.heap s.heap [] := va_S.rf
  unfold sX7_print at hv
  refine lv_aload_n hx hb dX7_print_0 rfl (lv_at hl 0 rfl) ?_
  refine va_get (D := D) (ci := 7) (v := .ref (z 6)) (C := RX7) (T := TX7) (N := 5) hx hb hts iw_X7 hown hK hT.1 0 rfl rfl 3 (by decide) (hts _ w_fl_X7_29) (fun _ h9 => h9) rfl dX7_print_1 ?_
  refine lv_aload_n hx hb dX7_print_4 rfl (lv_at hl 0 rfl) ?_
  refine va_get (D := D) (ci := 7) (v := .ref (A 0 0)) (C := RX7) (T := TX7) (N := 5) hx hb hts iw_X7 hown hK hT.1 0 rfl rfl 1 (by decide) (hts _ w_fl_X7_19) (fun _ h9 => h9) rfl dX7_print_5 ?_
  refine w_v (sX0_hold Os T) (va_runV (As := [.ref (A 0 0)]) (rest := []) ⟨hx, hb, hml, hown, hts⟩ (c_X0_hold l D cs z A adK adV Os T hd hn) (cwV 1 hts (good_V w_ml_X7_161 w_im_X0_hold w_se_X0_hold w_in_X0 w_co_X0_hold) rfl rfl rfl ⟨rfl, hd_X0_hold⟩ ⟨Nat.le_of_ble_eq_true rfl, Nat.le_of_ble_eq_true rfl⟩) (te_V (C := RX0) (T9 := TX0) (N := 3) (ci := 0) (q0 := 6) hT hE hXE hS rfl rfl) rfl rfl hl.1 rfl (lv_room (Nat.le_of_ble_eq_true rfl)) dX7_print_8 ⟨Nat.le_of_ble_eq_true rfl, Nat.le_of_ble_eq_true rfl⟩) hS (fun _ _ h => h) (fun _ h => h) (fun t locs hB hz hk hS => ?_)
  have hT : tsP D cs z A ((sX0_hold Os T).1) ((sX0_hold Os T).2) t.heap := hB
  refine lv_aload_n hx hb dX7_print_11 rfl (lv_at hl 0 rfl) ?_
  refine lv_aload_n hx hb dX7_print_12 rfl (lv_at hl 0 rfl) ?_
  refine va_get (D := D) (ci := 7) (v := .ref (A 0 0)) (C := RX7) (T := TX7) (N := 5) hx hb hts iw_X7 hown hK hT.1 0 rfl rfl 1 (by decide) (hts _ w_fl_X7_19) (fun _ h9 => h9) rfl dX7_print_13 ?_
  refine lv_iload_n hx hb dX7_print_16 rfl (lv_at hl 1 rfl) ?_
  refine lv_iload_n hx hb dX7_print_17 rfl (lv_at hl 2 rfl) ?_
  refine w_i (sX1_addPrint (((sX0_hold Os T).1) 0) p1 p2) (va_runV (As := [.int p1, .int p2]) (rest := [.ref (z 0)]) ⟨hx, hb, hml, hown, hts⟩ (c_X1_addPrint l D cs (A 0) (((sX0_hold Os T).1) 0) p1 p2 (hd.o (k := 0) (by decide))) (cwV 2 hts (good_V w_ml_X7_177 w_im_X1_addPrint w_se_X1_addPrint w_in_X1 w_co_X1_addPrint) rfl rfl rfl ⟨rfl, hd_X1_addPrint⟩ ⟨Nat.le_of_ble_eq_true rfl, Nat.le_of_ble_eq_true rfl⟩) (pe_W (C := RX1) (T := TX1) (N := 6) (ci := 1) (q0 := 0) (hT.2 0 (by decide)) hE rfl rfl) rfl rfl hl.1 rfl (lv_room (Nat.le_of_ble_eq_true rfl)) dX7_print_18 ⟨Nat.le_of_ble_eq_true rfl, Nat.le_of_ble_eq_true rfl⟩) hS (fun _ _ h => Or.inr ⟨0, by decide, h⟩) (fun _ h => Or.inr ⟨0, by decide, h⟩) (fun t locs hB hz hk hS => ?_)
  have hT : tsP D cs z A (va_up ((sX0_hold Os T).1) 0 ((sX1_addPrint (((sX0_hold Os T).1) 0) p1 p2).2)) ((sX0_hold Os T).2) t.heap := t_of hd hT (by decide) hk hB
  refine x_w (sX7_keptAnswer (va_up ((sX0_hold Os T).1) 0 ((sX1_addPrint (((sX0_hold Os T).1) 0) p1 p2).2)) ((sX0_hold Os T).2) ((sX1_addPrint (((sX0_hold Os T).1) 0) p1 p2).1)) (vx_runV (As := [.int ((sX1_addPrint (((sX0_hold Os T).1) 0) p1 p2).1)]) (rest := []) ⟨hx, hb, hml, hown, hts⟩ (c_X7_keptAnswer l D cs z A adK adV (va_up ((sX0_hold Os T).1) 0 ((sX1_addPrint (((sX0_hold Os T).1) 0) p1 p2).2)) ((sX0_hold Os T).2) ((sX1_addPrint (((sX0_hold Os T).1) 0) p1 p2).1) hd hlst) (cwV 1 hts (good_V w_ml_X7_168 w_im_X7_keptAnswer w_se_X7_keptAnswer w_in_X7 w_co_X7_keptAnswer) rfl rfl rfl ⟨rfl, hd_X7_keptAnswer⟩ ⟨Nat.le_of_ble_eq_true rfl, Nat.le_of_ble_eq_true rfl⟩) (te_V (C := RX7) (T9 := TX7) (N := 5) (ci := 7) (q0 := 0) hT hE hXE hS rfl rfl) rfl rfl hl.1 rfl (lv_room (Nat.le_of_ble_eq_true rfl)) dX7_print_21 ⟨Nat.le_of_ble_eq_true rfl, Nat.le_of_ble_eq_true rfl⟩) hS (fun _ _ h => h) (fun _ h => h) (fun c21 ce q9 t locs hT hz hk hS e1 e2 e3 => ?_) (fun c21 t locs hT hz hk hS => ?_)
  · have hv := (if_neg c21).symm.trans hv
    exact x_out hout hlocks e1 e2 e3 (xc_w (k := (sX7_keptAnswer (va_up ((sX0_hold Os T).1) 0 ((sX1_addPrint (((sX0_hold Os T).1) 0) p1 p2).2)) ((sX0_hold Os T).2) ((sX1_addPrint (((sX0_hold Os T).1) 0) p1 p2).1)).1) c21 hv hT hS) hS.2.2 (Nat.le_of_ble_eq_true rfl) (Nat.le_of_ble_eq_true rfl)
  · have hv := (if_pos c21).symm.trans hv
    refine W.widen (k := 1) (n := 6) (Nat.le_of_ble_eq_true rfl) (Nat.le_of_ble_eq_true rfl) ?_
    refine vx_ret ?_
    exact W.iret (v := (sX7_keptAnswer (va_up ((sX0_hold Os T).1) 0 ((sX1_addPrint (((sX0_hold Os T).1) 0) p1 p2).2)) ((sX0_hold Os T).2) ((sX1_addPrint (((sX0_hold Os T).1) 0) p1 p2).1)).2.1) hx hb hr (fun t ht hW => ⟨⟨(sX7_keptAnswer (va_up ((sX0_hold Os T).1) 0 ((sX1_addPrint (((sX0_hold Os T).1) 0) p1 p2).2)) ((sX0_hold Os T).2) ((sX1_addPrint (((sX0_hold Os T).1) 0) p1 p2).1)).2.1, (((sX7_keptAnswer (va_up ((sX0_hold Os T).1) 0 ((sX1_addPrint (((sX0_hold Os T).1) 0) p1 p2).2)) ((sX0_hold Os T).2) ((sX1_addPrint (((sX0_hold Os T).1) 0) p1 p2).1)).2.2.1), ((sX7_keptAnswer (va_up ((sX0_hold Os T).1) 0 ((sX1_addPrint (((sX0_hold Os T).1) 0) p1 p2).2)) ((sX0_hold Os T).2) ((sX1_addPrint (((sX0_hold Os T).1) 0) p1 p2).1)).2.2.2)), rfl, xw_eq hv, tw ht hT⟩, hS.F ht⟩) hS.2.2 dX7_print_24 (hlocks := hlocks)
theorem hd_X7_stamp : yX7_stamp.cls ≠ "java/lang/invoke/MethodHandle" ∧ yX7_stamp.cls ≠ "java/lang/invoke/VarHandle" ∧ (parseMethodDescriptor yX7_stamp.desc).map (fun d => d.parameters.length) = some 2 := by decide +kernel
def sX7_stamp (Os : Nat → OF) (T : OF) (p1 : Int32) (p2 : Int32) : Nat × Int32 × TSt := (if (sX7_keptAnswer (va_up ((sX0_hold Os T).1) 0 ((sX1_stampPrint (((sX0_hold Os T).1) 0) p1 p2).2)) ((sX0_hold Os T).2) ((sX1_stampPrint (((sX0_hold Os T).1) 0) p1 p2).1)).1 = 0 then (0, (sX7_keptAnswer (va_up ((sX0_hold Os T).1) 0 ((sX1_stampPrint (((sX0_hold Os T).1) 0) p1 p2).2)) ((sX0_hold Os T).2) ((sX1_stampPrint (((sX0_hold Os T).1) 0) p1 p2).1)).2.1, (((sX7_keptAnswer (va_up ((sX0_hold Os T).1) 0 ((sX1_stampPrint (((sX0_hold Os T).1) 0) p1 p2).2)) ((sX0_hold Os T).2) ((sX1_stampPrint (((sX0_hold Os T).1) 0) p1 p2).1)).2.2.1), ((sX7_keptAnswer (va_up ((sX0_hold Os T).1) 0 ((sX1_stampPrint (((sX0_hold Os T).1) 0) p1 p2).2)) ((sX0_hold Os T).2) ((sX1_stampPrint (((sX0_hold Os T).1) 0) p1 p2).1)).2.2.2))) else ((sX7_keptAnswer (va_up ((sX0_hold Os T).1) 0 ((sX1_stampPrint (((sX0_hold Os T).1) 0) p1 p2).2)) ((sX0_hold Os T).2) ((sX1_stampPrint (((sX0_hold Os T).1) 0) p1 p2).1)).1, 0, (((sX7_keptAnswer (va_up ((sX0_hold Os T).1) 0 ((sX1_stampPrint (((sX0_hold Os T).1) 0) p1 p2).2)) ((sX0_hold Os T).2) ((sX1_stampPrint (((sX0_hold Os T).1) 0) p1 p2).1)).2.2.1), ((sX7_keptAnswer (va_up ((sX0_hold Os T).1) 0 ((sX1_stampPrint (((sX0_hold Os T).1) 0) p1 p2).2)) ((sX0_hold Os T).2) ((sX1_stampPrint (((sX0_hold Os T).1) 0) p1 p2).1)).2.2.2))))
set_option maxHeartbeats 4000000 in
set_option maxRecDepth 100000 in
theorem c_X7_stamp (l : Launch) (D : va_G) (cs : Nat → ClassId) (z : Nat → Nat) (A : Nat → Nat → Nat) (adK adV : Nat → Nat) (Os : Nat → OF) (T : OF) (p1 : Int32) (p2 : Int32) (hd : tD z A) (hlst : l.stackTraces = false) (hn : vp_in (T.1 4) 15) : vx_Met l yX7_stamp (wc yX7_stamp cX7_stamp 3 (some .int)) ({ frames := 7, cells := 1, slots := 6, locals := 132 } : Room) (va_Pc [.ref (z 0), .int p1, .int p2] (TE D cs z A adK adV Os T)) (xwQ D cs z A (sX7_stamp Os T p1 p2)) (xwX D cs z A (sX7_stamp Os T p1 p2)) 1 6 (tA z A) := by
  obtain ⟨v, hv⟩ : ∃ v, sX7_stamp Os T p1 p2 = v := ⟨_, rfl⟩
  rw [hv]
  refine met_x (lv := [(0, .ref (z 0)), (1, .int p1), (2, .int p2)]) (by decide) (Nat.le_of_ble_eq_true rfl) rfl ?_
  intro p e s m args below meth c ls hx hb hr hml hts hown hlocks hout hB0 hl
  obtain ⟨⟨hT, hE⟩, hXE⟩ := hB0
  have hown : s.vm.findClass RX7 = some m.cls := hown
  have hK := hE.1
  have hS : va_S (tA z A) s.heap s.heap [] := va_S.rf
  unfold sX7_stamp at hv
  refine lv_aload_n hx hb dX7_stamp_0 rfl (lv_at hl 0 rfl) ?_
  refine va_get (D := D) (ci := 7) (v := .ref (z 6)) (C := RX7) (T := TX7) (N := 5) hx hb hts iw_X7 hown hK hT.1 0 rfl rfl 3 (by decide) (hts _ w_fl_X7_29) (fun _ h9 => h9) rfl dX7_stamp_1 ?_
  refine lv_aload_n hx hb dX7_stamp_4 rfl (lv_at hl 0 rfl) ?_
  refine va_get (D := D) (ci := 7) (v := .ref (A 0 0)) (C := RX7) (T := TX7) (N := 5) hx hb hts iw_X7 hown hK hT.1 0 rfl rfl 1 (by decide) (hts _ w_fl_X7_19) (fun _ h9 => h9) rfl dX7_stamp_5 ?_
  refine w_v (sX0_hold Os T) (va_runV (As := [.ref (A 0 0)]) (rest := []) ⟨hx, hb, hml, hown, hts⟩ (c_X0_hold l D cs z A adK adV Os T hd hn) (cwV 1 hts (good_V w_ml_X7_161 w_im_X0_hold w_se_X0_hold w_in_X0 w_co_X0_hold) rfl rfl rfl ⟨rfl, hd_X0_hold⟩ ⟨Nat.le_of_ble_eq_true rfl, Nat.le_of_ble_eq_true rfl⟩) (te_V (C := RX0) (T9 := TX0) (N := 3) (ci := 0) (q0 := 6) hT hE hXE hS rfl rfl) rfl rfl hl.1 rfl (lv_room (Nat.le_of_ble_eq_true rfl)) dX7_stamp_8 ⟨Nat.le_of_ble_eq_true rfl, Nat.le_of_ble_eq_true rfl⟩) hS (fun _ _ h => h) (fun _ h => h) (fun t locs hB hz hk hS => ?_)
  have hT : tsP D cs z A ((sX0_hold Os T).1) ((sX0_hold Os T).2) t.heap := hB
  refine lv_aload_n hx hb dX7_stamp_11 rfl (lv_at hl 0 rfl) ?_
  refine lv_aload_n hx hb dX7_stamp_12 rfl (lv_at hl 0 rfl) ?_
  refine va_get (D := D) (ci := 7) (v := .ref (A 0 0)) (C := RX7) (T := TX7) (N := 5) hx hb hts iw_X7 hown hK hT.1 0 rfl rfl 1 (by decide) (hts _ w_fl_X7_19) (fun _ h9 => h9) rfl dX7_stamp_13 ?_
  refine lv_iload_n hx hb dX7_stamp_16 rfl (lv_at hl 1 rfl) ?_
  refine lv_iload_n hx hb dX7_stamp_17 rfl (lv_at hl 2 rfl) ?_
  refine w_i (sX1_stampPrint (((sX0_hold Os T).1) 0) p1 p2) (va_runV (As := [.int p1, .int p2]) (rest := [.ref (z 0)]) ⟨hx, hb, hml, hown, hts⟩ (c_X1_stampPrint l D cs (A 0) (((sX0_hold Os T).1) 0) p1 p2 (hd.o (k := 0) (by decide))) (cwV 2 hts (good_V w_ml_X7_180 w_im_X1_stampPrint w_se_X1_stampPrint w_in_X1 w_co_X1_stampPrint) rfl rfl rfl ⟨rfl, hd_X1_stampPrint⟩ ⟨Nat.le_of_ble_eq_true rfl, Nat.le_of_ble_eq_true rfl⟩) (pe_W (C := RX1) (T := TX1) (N := 6) (ci := 1) (q0 := 0) (hT.2 0 (by decide)) hE rfl rfl) rfl rfl hl.1 rfl (lv_room (Nat.le_of_ble_eq_true rfl)) dX7_stamp_18 ⟨Nat.le_of_ble_eq_true rfl, Nat.le_of_ble_eq_true rfl⟩) hS (fun _ _ h => Or.inr ⟨0, by decide, h⟩) (fun _ h => Or.inr ⟨0, by decide, h⟩) (fun t locs hB hz hk hS => ?_)
  have hT : tsP D cs z A (va_up ((sX0_hold Os T).1) 0 ((sX1_stampPrint (((sX0_hold Os T).1) 0) p1 p2).2)) ((sX0_hold Os T).2) t.heap := t_of hd hT (by decide) hk hB
  refine x_w (sX7_keptAnswer (va_up ((sX0_hold Os T).1) 0 ((sX1_stampPrint (((sX0_hold Os T).1) 0) p1 p2).2)) ((sX0_hold Os T).2) ((sX1_stampPrint (((sX0_hold Os T).1) 0) p1 p2).1)) (vx_runV (As := [.int ((sX1_stampPrint (((sX0_hold Os T).1) 0) p1 p2).1)]) (rest := []) ⟨hx, hb, hml, hown, hts⟩ (c_X7_keptAnswer l D cs z A adK adV (va_up ((sX0_hold Os T).1) 0 ((sX1_stampPrint (((sX0_hold Os T).1) 0) p1 p2).2)) ((sX0_hold Os T).2) ((sX1_stampPrint (((sX0_hold Os T).1) 0) p1 p2).1) hd hlst) (cwV 1 hts (good_V w_ml_X7_168 w_im_X7_keptAnswer w_se_X7_keptAnswer w_in_X7 w_co_X7_keptAnswer) rfl rfl rfl ⟨rfl, hd_X7_keptAnswer⟩ ⟨Nat.le_of_ble_eq_true rfl, Nat.le_of_ble_eq_true rfl⟩) (te_V (C := RX7) (T9 := TX7) (N := 5) (ci := 7) (q0 := 0) hT hE hXE hS rfl rfl) rfl rfl hl.1 rfl (lv_room (Nat.le_of_ble_eq_true rfl)) dX7_stamp_21 ⟨Nat.le_of_ble_eq_true rfl, Nat.le_of_ble_eq_true rfl⟩) hS (fun _ _ h => h) (fun _ h => h) (fun c21 ce q9 t locs hT hz hk hS e1 e2 e3 => ?_) (fun c21 t locs hT hz hk hS => ?_)
  · have hv := (if_neg c21).symm.trans hv
    exact x_out hout hlocks e1 e2 e3 (xc_w (k := (sX7_keptAnswer (va_up ((sX0_hold Os T).1) 0 ((sX1_stampPrint (((sX0_hold Os T).1) 0) p1 p2).2)) ((sX0_hold Os T).2) ((sX1_stampPrint (((sX0_hold Os T).1) 0) p1 p2).1)).1) c21 hv hT hS) hS.2.2 (Nat.le_of_ble_eq_true rfl) (Nat.le_of_ble_eq_true rfl)
  · have hv := (if_pos c21).symm.trans hv
    refine W.widen (k := 1) (n := 6) (Nat.le_of_ble_eq_true rfl) (Nat.le_of_ble_eq_true rfl) ?_
    refine vx_ret ?_
    exact W.iret (v := (sX7_keptAnswer (va_up ((sX0_hold Os T).1) 0 ((sX1_stampPrint (((sX0_hold Os T).1) 0) p1 p2).2)) ((sX0_hold Os T).2) ((sX1_stampPrint (((sX0_hold Os T).1) 0) p1 p2).1)).2.1) hx hb hr (fun t ht hW => ⟨⟨(sX7_keptAnswer (va_up ((sX0_hold Os T).1) 0 ((sX1_stampPrint (((sX0_hold Os T).1) 0) p1 p2).2)) ((sX0_hold Os T).2) ((sX1_stampPrint (((sX0_hold Os T).1) 0) p1 p2).1)).2.1, (((sX7_keptAnswer (va_up ((sX0_hold Os T).1) 0 ((sX1_stampPrint (((sX0_hold Os T).1) 0) p1 p2).2)) ((sX0_hold Os T).2) ((sX1_stampPrint (((sX0_hold Os T).1) 0) p1 p2).1)).2.2.1), ((sX7_keptAnswer (va_up ((sX0_hold Os T).1) 0 ((sX1_stampPrint (((sX0_hold Os T).1) 0) p1 p2).2)) ((sX0_hold Os T).2) ((sX1_stampPrint (((sX0_hold Os T).1) 0) p1 p2).1)).2.2.2)), rfl, xw_eq hv, tw ht hT⟩, hS.F ht⟩) hS.2.2 dX7_stamp_24 (hlocks := hlocks)
theorem hd_X7_back : yX7_back.cls ≠ "java/lang/invoke/MethodHandle" ∧ yX7_back.cls ≠ "java/lang/invoke/VarHandle" ∧ (parseMethodDescriptor yX7_back.desc).map (fun d => d.parameters.length) = some 1 := by decide +kernel
def sX7_back (Os : Nat → OF) (T : OF) (p1 : Int32) : Nat × Int32 × TSt := (if (sX7_keptAnswer (va_up ((sX0_hold Os T).1) 0 ((sX1_takeBack (((sX0_hold Os T).1) 0) p1).2)) ((sX0_hold Os T).2) ((sX1_takeBack (((sX0_hold Os T).1) 0) p1).1)).1 = 0 then (0, (sX7_keptAnswer (va_up ((sX0_hold Os T).1) 0 ((sX1_takeBack (((sX0_hold Os T).1) 0) p1).2)) ((sX0_hold Os T).2) ((sX1_takeBack (((sX0_hold Os T).1) 0) p1).1)).2.1, (((sX7_keptAnswer (va_up ((sX0_hold Os T).1) 0 ((sX1_takeBack (((sX0_hold Os T).1) 0) p1).2)) ((sX0_hold Os T).2) ((sX1_takeBack (((sX0_hold Os T).1) 0) p1).1)).2.2.1), ((sX7_keptAnswer (va_up ((sX0_hold Os T).1) 0 ((sX1_takeBack (((sX0_hold Os T).1) 0) p1).2)) ((sX0_hold Os T).2) ((sX1_takeBack (((sX0_hold Os T).1) 0) p1).1)).2.2.2))) else ((sX7_keptAnswer (va_up ((sX0_hold Os T).1) 0 ((sX1_takeBack (((sX0_hold Os T).1) 0) p1).2)) ((sX0_hold Os T).2) ((sX1_takeBack (((sX0_hold Os T).1) 0) p1).1)).1, 0, (((sX7_keptAnswer (va_up ((sX0_hold Os T).1) 0 ((sX1_takeBack (((sX0_hold Os T).1) 0) p1).2)) ((sX0_hold Os T).2) ((sX1_takeBack (((sX0_hold Os T).1) 0) p1).1)).2.2.1), ((sX7_keptAnswer (va_up ((sX0_hold Os T).1) 0 ((sX1_takeBack (((sX0_hold Os T).1) 0) p1).2)) ((sX0_hold Os T).2) ((sX1_takeBack (((sX0_hold Os T).1) 0) p1).1)).2.2.2))))
set_option maxHeartbeats 4000000 in
set_option maxRecDepth 100000 in
theorem c_X7_back (l : Launch) (D : va_G) (cs : Nat → ClassId) (z : Nat → Nat) (A : Nat → Nat → Nat) (adK adV : Nat → Nat) (Os : Nat → OF) (T : OF) (p1 : Int32) (hd : tD z A) (hlst : l.stackTraces = false) (hn : vp_in (T.1 4) 15) : vx_Met l yX7_back (wc yX7_back cX7_back 2 (some .int)) ({ frames := 7, cells := 1, slots := 6, locals := 132 } : Room) (va_Pc [.ref (z 0), .int p1] (TE D cs z A adK adV Os T)) (xwQ D cs z A (sX7_back Os T p1)) (xwX D cs z A (sX7_back Os T p1)) 1 6 (tA z A) := by
  obtain ⟨v, hv⟩ : ∃ v, sX7_back Os T p1 = v := ⟨_, rfl⟩
  rw [hv]
  refine met_x (lv := [(0, .ref (z 0)), (1, .int p1)]) (by decide) (Nat.le_of_ble_eq_true rfl) rfl ?_
  intro p e s m args below meth c ls hx hb hr hml hts hown hlocks hout hB0 hl
  obtain ⟨⟨hT, hE⟩, hXE⟩ := hB0
  have hown : s.vm.findClass RX7 = some m.cls := hown
  have hK := hE.1
  have hS : va_S (tA z A) s.heap s.heap [] := va_S.rf
  unfold sX7_back at hv
  refine lv_aload_n hx hb dX7_back_0 rfl (lv_at hl 0 rfl) ?_
  refine va_get (D := D) (ci := 7) (v := .ref (z 6)) (C := RX7) (T := TX7) (N := 5) hx hb hts iw_X7 hown hK hT.1 0 rfl rfl 3 (by decide) (hts _ w_fl_X7_29) (fun _ h9 => h9) rfl dX7_back_1 ?_
  refine lv_aload_n hx hb dX7_back_4 rfl (lv_at hl 0 rfl) ?_
  refine va_get (D := D) (ci := 7) (v := .ref (A 0 0)) (C := RX7) (T := TX7) (N := 5) hx hb hts iw_X7 hown hK hT.1 0 rfl rfl 1 (by decide) (hts _ w_fl_X7_19) (fun _ h9 => h9) rfl dX7_back_5 ?_
  refine w_v (sX0_hold Os T) (va_runV (As := [.ref (A 0 0)]) (rest := []) ⟨hx, hb, hml, hown, hts⟩ (c_X0_hold l D cs z A adK adV Os T hd hn) (cwV 1 hts (good_V w_ml_X7_161 w_im_X0_hold w_se_X0_hold w_in_X0 w_co_X0_hold) rfl rfl rfl ⟨rfl, hd_X0_hold⟩ ⟨Nat.le_of_ble_eq_true rfl, Nat.le_of_ble_eq_true rfl⟩) (te_V (C := RX0) (T9 := TX0) (N := 3) (ci := 0) (q0 := 6) hT hE hXE hS rfl rfl) rfl rfl hl.1 rfl (lv_room (Nat.le_of_ble_eq_true rfl)) dX7_back_8 ⟨Nat.le_of_ble_eq_true rfl, Nat.le_of_ble_eq_true rfl⟩) hS (fun _ _ h => h) (fun _ h => h) (fun t locs hB hz hk hS => ?_)
  have hT : tsP D cs z A ((sX0_hold Os T).1) ((sX0_hold Os T).2) t.heap := hB
  refine lv_aload_n hx hb dX7_back_11 rfl (lv_at hl 0 rfl) ?_
  refine lv_aload_n hx hb dX7_back_12 rfl (lv_at hl 0 rfl) ?_
  refine va_get (D := D) (ci := 7) (v := .ref (A 0 0)) (C := RX7) (T := TX7) (N := 5) hx hb hts iw_X7 hown hK hT.1 0 rfl rfl 1 (by decide) (hts _ w_fl_X7_19) (fun _ h9 => h9) rfl dX7_back_13 ?_
  refine lv_iload_n hx hb dX7_back_16 rfl (lv_at hl 1 rfl) ?_
  refine w_i (sX1_takeBack (((sX0_hold Os T).1) 0) p1) (va_runV (As := [.int p1]) (rest := [.ref (z 0)]) ⟨hx, hb, hml, hown, hts⟩ (c_X1_takeBack l D cs (A 0) (((sX0_hold Os T).1) 0) p1 (hd.o (k := 0) (by decide))) (cwV 1 hts (good_V w_ml_X7_183 w_im_X1_takeBack w_se_X1_takeBack w_in_X1 w_co_X1_takeBack) rfl rfl rfl ⟨rfl, hd_X1_takeBack⟩ ⟨Nat.le_of_ble_eq_true rfl, Nat.le_of_ble_eq_true rfl⟩) (pe_W (C := RX1) (T := TX1) (N := 6) (ci := 1) (q0 := 0) (hT.2 0 (by decide)) hE rfl rfl) rfl rfl hl.1 rfl (lv_room (Nat.le_of_ble_eq_true rfl)) dX7_back_17 ⟨Nat.le_of_ble_eq_true rfl, Nat.le_of_ble_eq_true rfl⟩) hS (fun _ _ h => Or.inr ⟨0, by decide, h⟩) (fun _ h => Or.inr ⟨0, by decide, h⟩) (fun t locs hB hz hk hS => ?_)
  have hT : tsP D cs z A (va_up ((sX0_hold Os T).1) 0 ((sX1_takeBack (((sX0_hold Os T).1) 0) p1).2)) ((sX0_hold Os T).2) t.heap := t_of hd hT (by decide) hk hB
  refine x_w (sX7_keptAnswer (va_up ((sX0_hold Os T).1) 0 ((sX1_takeBack (((sX0_hold Os T).1) 0) p1).2)) ((sX0_hold Os T).2) ((sX1_takeBack (((sX0_hold Os T).1) 0) p1).1)) (vx_runV (As := [.int ((sX1_takeBack (((sX0_hold Os T).1) 0) p1).1)]) (rest := []) ⟨hx, hb, hml, hown, hts⟩ (c_X7_keptAnswer l D cs z A adK adV (va_up ((sX0_hold Os T).1) 0 ((sX1_takeBack (((sX0_hold Os T).1) 0) p1).2)) ((sX0_hold Os T).2) ((sX1_takeBack (((sX0_hold Os T).1) 0) p1).1) hd hlst) (cwV 1 hts (good_V w_ml_X7_168 w_im_X7_keptAnswer w_se_X7_keptAnswer w_in_X7 w_co_X7_keptAnswer) rfl rfl rfl ⟨rfl, hd_X7_keptAnswer⟩ ⟨Nat.le_of_ble_eq_true rfl, Nat.le_of_ble_eq_true rfl⟩) (te_V (C := RX7) (T9 := TX7) (N := 5) (ci := 7) (q0 := 0) hT hE hXE hS rfl rfl) rfl rfl hl.1 rfl (lv_room (Nat.le_of_ble_eq_true rfl)) dX7_back_20 ⟨Nat.le_of_ble_eq_true rfl, Nat.le_of_ble_eq_true rfl⟩) hS (fun _ _ h => h) (fun _ h => h) (fun c20 ce q9 t locs hT hz hk hS e1 e2 e3 => ?_) (fun c20 t locs hT hz hk hS => ?_)
  · have hv := (if_neg c20).symm.trans hv
    exact x_out hout hlocks e1 e2 e3 (xc_w (k := (sX7_keptAnswer (va_up ((sX0_hold Os T).1) 0 ((sX1_takeBack (((sX0_hold Os T).1) 0) p1).2)) ((sX0_hold Os T).2) ((sX1_takeBack (((sX0_hold Os T).1) 0) p1).1)).1) c20 hv hT hS) hS.2.2 (Nat.le_of_ble_eq_true rfl) (Nat.le_of_ble_eq_true rfl)
  · have hv := (if_pos c20).symm.trans hv
    refine W.widen (k := 1) (n := 6) (Nat.le_of_ble_eq_true rfl) (Nat.le_of_ble_eq_true rfl) ?_
    refine vx_ret ?_
    exact W.iret (v := (sX7_keptAnswer (va_up ((sX0_hold Os T).1) 0 ((sX1_takeBack (((sX0_hold Os T).1) 0) p1).2)) ((sX0_hold Os T).2) ((sX1_takeBack (((sX0_hold Os T).1) 0) p1).1)).2.1) hx hb hr (fun t ht hW => ⟨⟨(sX7_keptAnswer (va_up ((sX0_hold Os T).1) 0 ((sX1_takeBack (((sX0_hold Os T).1) 0) p1).2)) ((sX0_hold Os T).2) ((sX1_takeBack (((sX0_hold Os T).1) 0) p1).1)).2.1, (((sX7_keptAnswer (va_up ((sX0_hold Os T).1) 0 ((sX1_takeBack (((sX0_hold Os T).1) 0) p1).2)) ((sX0_hold Os T).2) ((sX1_takeBack (((sX0_hold Os T).1) 0) p1).1)).2.2.1), ((sX7_keptAnswer (va_up ((sX0_hold Os T).1) 0 ((sX1_takeBack (((sX0_hold Os T).1) 0) p1).2)) ((sX0_hold Os T).2) ((sX1_takeBack (((sX0_hold Os T).1) 0) p1).1)).2.2.2)), rfl, xw_eq hv, tw ht hT⟩, hS.F ht⟩) hS.2.2 dX7_back_23 (hlocks := hlocks)
theorem hd_X7_build : yX7_build.cls ≠ "java/lang/invoke/MethodHandle" ∧ yX7_build.cls ≠ "java/lang/invoke/VarHandle" ∧ (parseMethodDescriptor yX7_build.desc).map (fun d => d.parameters.length) = some 2 := by decide +kernel
def sX7_build (Os : Nat → OF) (T : OF) (p1 : Int32) (p2 : Int32) : Nat × Int32 × TSt := (if (sX7_keptAnswer (va_up ((sX0_hold Os T).1) 0 ((sX1_buildField (((sX0_hold Os T).1) 0) p1 p2).2)) ((sX0_hold Os T).2) ((sX1_buildField (((sX0_hold Os T).1) 0) p1 p2).1)).1 = 0 then (0, (sX7_keptAnswer (va_up ((sX0_hold Os T).1) 0 ((sX1_buildField (((sX0_hold Os T).1) 0) p1 p2).2)) ((sX0_hold Os T).2) ((sX1_buildField (((sX0_hold Os T).1) 0) p1 p2).1)).2.1, (((sX7_keptAnswer (va_up ((sX0_hold Os T).1) 0 ((sX1_buildField (((sX0_hold Os T).1) 0) p1 p2).2)) ((sX0_hold Os T).2) ((sX1_buildField (((sX0_hold Os T).1) 0) p1 p2).1)).2.2.1), ((sX7_keptAnswer (va_up ((sX0_hold Os T).1) 0 ((sX1_buildField (((sX0_hold Os T).1) 0) p1 p2).2)) ((sX0_hold Os T).2) ((sX1_buildField (((sX0_hold Os T).1) 0) p1 p2).1)).2.2.2))) else ((sX7_keptAnswer (va_up ((sX0_hold Os T).1) 0 ((sX1_buildField (((sX0_hold Os T).1) 0) p1 p2).2)) ((sX0_hold Os T).2) ((sX1_buildField (((sX0_hold Os T).1) 0) p1 p2).1)).1, 0, (((sX7_keptAnswer (va_up ((sX0_hold Os T).1) 0 ((sX1_buildField (((sX0_hold Os T).1) 0) p1 p2).2)) ((sX0_hold Os T).2) ((sX1_buildField (((sX0_hold Os T).1) 0) p1 p2).1)).2.2.1), ((sX7_keptAnswer (va_up ((sX0_hold Os T).1) 0 ((sX1_buildField (((sX0_hold Os T).1) 0) p1 p2).2)) ((sX0_hold Os T).2) ((sX1_buildField (((sX0_hold Os T).1) 0) p1 p2).1)).2.2.2))))
set_option maxHeartbeats 4000000 in
set_option maxRecDepth 100000 in
theorem c_X7_build (l : Launch) (D : va_G) (cs : Nat → ClassId) (z : Nat → Nat) (A : Nat → Nat → Nat) (adK adV : Nat → Nat) (Os : Nat → OF) (T : OF) (p1 : Int32) (p2 : Int32) (hd : tD z A) (hlst : l.stackTraces = false) (hn : vp_in (T.1 4) 15) : vx_Met l yX7_build (wc yX7_build cX7_build 3 (some .int)) ({ frames := 7, cells := 1, slots := 6, locals := 132 } : Room) (va_Pc [.ref (z 0), .int p1, .int p2] (TE D cs z A adK adV Os T)) (xwQ D cs z A (sX7_build Os T p1 p2)) (xwX D cs z A (sX7_build Os T p1 p2)) 1 6 (tA z A) := by
  obtain ⟨v, hv⟩ : ∃ v, sX7_build Os T p1 p2 = v := ⟨_, rfl⟩
  rw [hv]
  refine met_x (lv := [(0, .ref (z 0)), (1, .int p1), (2, .int p2)]) (by decide) (Nat.le_of_ble_eq_true rfl) rfl ?_
  intro p e s m args below meth c ls hx hb hr hml hts hown hlocks hout hB0 hl
  obtain ⟨⟨hT, hE⟩, hXE⟩ := hB0
  have hown : s.vm.findClass RX7 = some m.cls := hown
  have hK := hE.1
  have hS : va_S (tA z A) s.heap s.heap [] := va_S.rf
  unfold sX7_build at hv
  refine lv_aload_n hx hb dX7_build_0 rfl (lv_at hl 0 rfl) ?_
  refine va_get (D := D) (ci := 7) (v := .ref (z 6)) (C := RX7) (T := TX7) (N := 5) hx hb hts iw_X7 hown hK hT.1 0 rfl rfl 3 (by decide) (hts _ w_fl_X7_29) (fun _ h9 => h9) rfl dX7_build_1 ?_
  refine lv_aload_n hx hb dX7_build_4 rfl (lv_at hl 0 rfl) ?_
  refine va_get (D := D) (ci := 7) (v := .ref (A 0 0)) (C := RX7) (T := TX7) (N := 5) hx hb hts iw_X7 hown hK hT.1 0 rfl rfl 1 (by decide) (hts _ w_fl_X7_19) (fun _ h9 => h9) rfl dX7_build_5 ?_
  refine w_v (sX0_hold Os T) (va_runV (As := [.ref (A 0 0)]) (rest := []) ⟨hx, hb, hml, hown, hts⟩ (c_X0_hold l D cs z A adK adV Os T hd hn) (cwV 1 hts (good_V w_ml_X7_161 w_im_X0_hold w_se_X0_hold w_in_X0 w_co_X0_hold) rfl rfl rfl ⟨rfl, hd_X0_hold⟩ ⟨Nat.le_of_ble_eq_true rfl, Nat.le_of_ble_eq_true rfl⟩) (te_V (C := RX0) (T9 := TX0) (N := 3) (ci := 0) (q0 := 6) hT hE hXE hS rfl rfl) rfl rfl hl.1 rfl (lv_room (Nat.le_of_ble_eq_true rfl)) dX7_build_8 ⟨Nat.le_of_ble_eq_true rfl, Nat.le_of_ble_eq_true rfl⟩) hS (fun _ _ h => h) (fun _ h => h) (fun t locs hB hz hk hS => ?_)
  have hT : tsP D cs z A ((sX0_hold Os T).1) ((sX0_hold Os T).2) t.heap := hB
  refine lv_aload_n hx hb dX7_build_11 rfl (lv_at hl 0 rfl) ?_
  refine lv_aload_n hx hb dX7_build_12 rfl (lv_at hl 0 rfl) ?_
  refine va_get (D := D) (ci := 7) (v := .ref (A 0 0)) (C := RX7) (T := TX7) (N := 5) hx hb hts iw_X7 hown hK hT.1 0 rfl rfl 1 (by decide) (hts _ w_fl_X7_19) (fun _ h9 => h9) rfl dX7_build_13 ?_
  refine lv_iload_n hx hb dX7_build_16 rfl (lv_at hl 1 rfl) ?_
  refine lv_iload_n hx hb dX7_build_17 rfl (lv_at hl 2 rfl) ?_
  refine w_i (sX1_buildField (((sX0_hold Os T).1) 0) p1 p2) (va_runV (As := [.int p1, .int p2]) (rest := [.ref (z 0)]) ⟨hx, hb, hml, hown, hts⟩ (c_X1_buildField l D cs (A 0) (((sX0_hold Os T).1) 0) p1 p2 (hd.o (k := 0) (by decide))) (cwV 2 hts (good_V w_ml_X7_186 w_im_X1_buildField w_se_X1_buildField w_in_X1 w_co_X1_buildField) rfl rfl rfl ⟨rfl, hd_X1_buildField⟩ ⟨Nat.le_of_ble_eq_true rfl, Nat.le_of_ble_eq_true rfl⟩) (pe_W (C := RX1) (T := TX1) (N := 6) (ci := 1) (q0 := 0) (hT.2 0 (by decide)) hE rfl rfl) rfl rfl hl.1 rfl (lv_room (Nat.le_of_ble_eq_true rfl)) dX7_build_18 ⟨Nat.le_of_ble_eq_true rfl, Nat.le_of_ble_eq_true rfl⟩) hS (fun _ _ h => Or.inr ⟨0, by decide, h⟩) (fun _ h => Or.inr ⟨0, by decide, h⟩) (fun t locs hB hz hk hS => ?_)
  have hT : tsP D cs z A (va_up ((sX0_hold Os T).1) 0 ((sX1_buildField (((sX0_hold Os T).1) 0) p1 p2).2)) ((sX0_hold Os T).2) t.heap := t_of hd hT (by decide) hk hB
  refine x_w (sX7_keptAnswer (va_up ((sX0_hold Os T).1) 0 ((sX1_buildField (((sX0_hold Os T).1) 0) p1 p2).2)) ((sX0_hold Os T).2) ((sX1_buildField (((sX0_hold Os T).1) 0) p1 p2).1)) (vx_runV (As := [.int ((sX1_buildField (((sX0_hold Os T).1) 0) p1 p2).1)]) (rest := []) ⟨hx, hb, hml, hown, hts⟩ (c_X7_keptAnswer l D cs z A adK adV (va_up ((sX0_hold Os T).1) 0 ((sX1_buildField (((sX0_hold Os T).1) 0) p1 p2).2)) ((sX0_hold Os T).2) ((sX1_buildField (((sX0_hold Os T).1) 0) p1 p2).1) hd hlst) (cwV 1 hts (good_V w_ml_X7_168 w_im_X7_keptAnswer w_se_X7_keptAnswer w_in_X7 w_co_X7_keptAnswer) rfl rfl rfl ⟨rfl, hd_X7_keptAnswer⟩ ⟨Nat.le_of_ble_eq_true rfl, Nat.le_of_ble_eq_true rfl⟩) (te_V (C := RX7) (T9 := TX7) (N := 5) (ci := 7) (q0 := 0) hT hE hXE hS rfl rfl) rfl rfl hl.1 rfl (lv_room (Nat.le_of_ble_eq_true rfl)) dX7_build_21 ⟨Nat.le_of_ble_eq_true rfl, Nat.le_of_ble_eq_true rfl⟩) hS (fun _ _ h => h) (fun _ h => h) (fun c21 ce q9 t locs hT hz hk hS e1 e2 e3 => ?_) (fun c21 t locs hT hz hk hS => ?_)
  · have hv := (if_neg c21).symm.trans hv
    exact x_out hout hlocks e1 e2 e3 (xc_w (k := (sX7_keptAnswer (va_up ((sX0_hold Os T).1) 0 ((sX1_buildField (((sX0_hold Os T).1) 0) p1 p2).2)) ((sX0_hold Os T).2) ((sX1_buildField (((sX0_hold Os T).1) 0) p1 p2).1)).1) c21 hv hT hS) hS.2.2 (Nat.le_of_ble_eq_true rfl) (Nat.le_of_ble_eq_true rfl)
  · have hv := (if_pos c21).symm.trans hv
    refine W.widen (k := 1) (n := 6) (Nat.le_of_ble_eq_true rfl) (Nat.le_of_ble_eq_true rfl) ?_
    refine vx_ret ?_
    exact W.iret (v := (sX7_keptAnswer (va_up ((sX0_hold Os T).1) 0 ((sX1_buildField (((sX0_hold Os T).1) 0) p1 p2).2)) ((sX0_hold Os T).2) ((sX1_buildField (((sX0_hold Os T).1) 0) p1 p2).1)).2.1) hx hb hr (fun t ht hW => ⟨⟨(sX7_keptAnswer (va_up ((sX0_hold Os T).1) 0 ((sX1_buildField (((sX0_hold Os T).1) 0) p1 p2).2)) ((sX0_hold Os T).2) ((sX1_buildField (((sX0_hold Os T).1) 0) p1 p2).1)).2.1, (((sX7_keptAnswer (va_up ((sX0_hold Os T).1) 0 ((sX1_buildField (((sX0_hold Os T).1) 0) p1 p2).2)) ((sX0_hold Os T).2) ((sX1_buildField (((sX0_hold Os T).1) 0) p1 p2).1)).2.2.1), ((sX7_keptAnswer (va_up ((sX0_hold Os T).1) 0 ((sX1_buildField (((sX0_hold Os T).1) 0) p1 p2).2)) ((sX0_hold Os T).2) ((sX1_buildField (((sX0_hold Os T).1) 0) p1 p2).1)).2.2.2)), rfl, xw_eq hv, tw ht hT⟩, hS.F ht⟩) hS.2.2 dX7_build_24 (hlocks := hlocks)
theorem hd_X7_mend : yX7_mend.cls ≠ "java/lang/invoke/MethodHandle" ∧ yX7_mend.cls ≠ "java/lang/invoke/VarHandle" ∧ (parseMethodDescriptor yX7_mend.desc).map (fun d => d.parameters.length) = some 1 := by decide +kernel
def sX7_mend (Os : Nat → OF) (T : OF) (p1 : Int32) : Nat × Int32 × TSt := (if (sX7_keptAnswer (va_up ((sX0_hold Os T).1) 0 ((sX1_mendWork (((sX0_hold Os T).1) 0) p1).2)) ((sX0_hold Os T).2) ((sX1_mendWork (((sX0_hold Os T).1) 0) p1).1)).1 = 0 then (0, (sX7_keptAnswer (va_up ((sX0_hold Os T).1) 0 ((sX1_mendWork (((sX0_hold Os T).1) 0) p1).2)) ((sX0_hold Os T).2) ((sX1_mendWork (((sX0_hold Os T).1) 0) p1).1)).2.1, (((sX7_keptAnswer (va_up ((sX0_hold Os T).1) 0 ((sX1_mendWork (((sX0_hold Os T).1) 0) p1).2)) ((sX0_hold Os T).2) ((sX1_mendWork (((sX0_hold Os T).1) 0) p1).1)).2.2.1), ((sX7_keptAnswer (va_up ((sX0_hold Os T).1) 0 ((sX1_mendWork (((sX0_hold Os T).1) 0) p1).2)) ((sX0_hold Os T).2) ((sX1_mendWork (((sX0_hold Os T).1) 0) p1).1)).2.2.2))) else ((sX7_keptAnswer (va_up ((sX0_hold Os T).1) 0 ((sX1_mendWork (((sX0_hold Os T).1) 0) p1).2)) ((sX0_hold Os T).2) ((sX1_mendWork (((sX0_hold Os T).1) 0) p1).1)).1, 0, (((sX7_keptAnswer (va_up ((sX0_hold Os T).1) 0 ((sX1_mendWork (((sX0_hold Os T).1) 0) p1).2)) ((sX0_hold Os T).2) ((sX1_mendWork (((sX0_hold Os T).1) 0) p1).1)).2.2.1), ((sX7_keptAnswer (va_up ((sX0_hold Os T).1) 0 ((sX1_mendWork (((sX0_hold Os T).1) 0) p1).2)) ((sX0_hold Os T).2) ((sX1_mendWork (((sX0_hold Os T).1) 0) p1).1)).2.2.2))))
set_option maxHeartbeats 4000000 in
set_option maxRecDepth 100000 in
theorem c_X7_mend (l : Launch) (D : va_G) (cs : Nat → ClassId) (z : Nat → Nat) (A : Nat → Nat → Nat) (adK adV : Nat → Nat) (Os : Nat → OF) (T : OF) (p1 : Int32) (hd : tD z A) (hlst : l.stackTraces = false) (hn : vp_in (T.1 4) 15) : vx_Met l yX7_mend (wc yX7_mend cX7_mend 2 (some .int)) ({ frames := 7, cells := 1, slots := 6, locals := 132 } : Room) (va_Pc [.ref (z 0), .int p1] (TE D cs z A adK adV Os T)) (xwQ D cs z A (sX7_mend Os T p1)) (xwX D cs z A (sX7_mend Os T p1)) 1 6 (tA z A) := by
  obtain ⟨v, hv⟩ : ∃ v, sX7_mend Os T p1 = v := ⟨_, rfl⟩
  rw [hv]
  refine met_x (lv := [(0, .ref (z 0)), (1, .int p1)]) (by decide) (Nat.le_of_ble_eq_true rfl) rfl ?_
  intro p e s m args below meth c ls hx hb hr hml hts hown hlocks hout hB0 hl
  obtain ⟨⟨hT, hE⟩, hXE⟩ := hB0
  have hown : s.vm.findClass RX7 = some m.cls := hown
  have hK := hE.1
  have hS : va_S (tA z A) s.heap s.heap [] := va_S.rf
  unfold sX7_mend at hv
  refine lv_aload_n hx hb dX7_mend_0 rfl (lv_at hl 0 rfl) ?_
  refine va_get (D := D) (ci := 7) (v := .ref (z 6)) (C := RX7) (T := TX7) (N := 5) hx hb hts iw_X7 hown hK hT.1 0 rfl rfl 3 (by decide) (hts _ w_fl_X7_29) (fun _ h9 => h9) rfl dX7_mend_1 ?_
  refine lv_aload_n hx hb dX7_mend_4 rfl (lv_at hl 0 rfl) ?_
  refine va_get (D := D) (ci := 7) (v := .ref (A 0 0)) (C := RX7) (T := TX7) (N := 5) hx hb hts iw_X7 hown hK hT.1 0 rfl rfl 1 (by decide) (hts _ w_fl_X7_19) (fun _ h9 => h9) rfl dX7_mend_5 ?_
  refine w_v (sX0_hold Os T) (va_runV (As := [.ref (A 0 0)]) (rest := []) ⟨hx, hb, hml, hown, hts⟩ (c_X0_hold l D cs z A adK adV Os T hd hn) (cwV 1 hts (good_V w_ml_X7_161 w_im_X0_hold w_se_X0_hold w_in_X0 w_co_X0_hold) rfl rfl rfl ⟨rfl, hd_X0_hold⟩ ⟨Nat.le_of_ble_eq_true rfl, Nat.le_of_ble_eq_true rfl⟩) (te_V (C := RX0) (T9 := TX0) (N := 3) (ci := 0) (q0 := 6) hT hE hXE hS rfl rfl) rfl rfl hl.1 rfl (lv_room (Nat.le_of_ble_eq_true rfl)) dX7_mend_8 ⟨Nat.le_of_ble_eq_true rfl, Nat.le_of_ble_eq_true rfl⟩) hS (fun _ _ h => h) (fun _ h => h) (fun t locs hB hz hk hS => ?_)
  have hT : tsP D cs z A ((sX0_hold Os T).1) ((sX0_hold Os T).2) t.heap := hB
  refine lv_aload_n hx hb dX7_mend_11 rfl (lv_at hl 0 rfl) ?_
  refine lv_aload_n hx hb dX7_mend_12 rfl (lv_at hl 0 rfl) ?_
  refine va_get (D := D) (ci := 7) (v := .ref (A 0 0)) (C := RX7) (T := TX7) (N := 5) hx hb hts iw_X7 hown hK hT.1 0 rfl rfl 1 (by decide) (hts _ w_fl_X7_19) (fun _ h9 => h9) rfl dX7_mend_13 ?_
  refine lv_iload_n hx hb dX7_mend_16 rfl (lv_at hl 1 rfl) ?_
  refine w_i (sX1_mendWork (((sX0_hold Os T).1) 0) p1) (va_runV (As := [.int p1]) (rest := [.ref (z 0)]) ⟨hx, hb, hml, hown, hts⟩ (c_X1_mendWork l D cs (A 0) (((sX0_hold Os T).1) 0) p1 (hd.o (k := 0) (by decide))) (cwV 1 hts (good_V w_ml_X7_189 w_im_X1_mendWork w_se_X1_mendWork w_in_X1 w_co_X1_mendWork) rfl rfl rfl ⟨rfl, hd_X1_mendWork⟩ ⟨Nat.le_of_ble_eq_true rfl, Nat.le_of_ble_eq_true rfl⟩) (pe_W (C := RX1) (T := TX1) (N := 6) (ci := 1) (q0 := 0) (hT.2 0 (by decide)) hE rfl rfl) rfl rfl hl.1 rfl (lv_room (Nat.le_of_ble_eq_true rfl)) dX7_mend_17 ⟨Nat.le_of_ble_eq_true rfl, Nat.le_of_ble_eq_true rfl⟩) hS (fun _ _ h => Or.inr ⟨0, by decide, h⟩) (fun _ h => Or.inr ⟨0, by decide, h⟩) (fun t locs hB hz hk hS => ?_)
  have hT : tsP D cs z A (va_up ((sX0_hold Os T).1) 0 ((sX1_mendWork (((sX0_hold Os T).1) 0) p1).2)) ((sX0_hold Os T).2) t.heap := t_of hd hT (by decide) hk hB
  refine x_w (sX7_keptAnswer (va_up ((sX0_hold Os T).1) 0 ((sX1_mendWork (((sX0_hold Os T).1) 0) p1).2)) ((sX0_hold Os T).2) ((sX1_mendWork (((sX0_hold Os T).1) 0) p1).1)) (vx_runV (As := [.int ((sX1_mendWork (((sX0_hold Os T).1) 0) p1).1)]) (rest := []) ⟨hx, hb, hml, hown, hts⟩ (c_X7_keptAnswer l D cs z A adK adV (va_up ((sX0_hold Os T).1) 0 ((sX1_mendWork (((sX0_hold Os T).1) 0) p1).2)) ((sX0_hold Os T).2) ((sX1_mendWork (((sX0_hold Os T).1) 0) p1).1) hd hlst) (cwV 1 hts (good_V w_ml_X7_168 w_im_X7_keptAnswer w_se_X7_keptAnswer w_in_X7 w_co_X7_keptAnswer) rfl rfl rfl ⟨rfl, hd_X7_keptAnswer⟩ ⟨Nat.le_of_ble_eq_true rfl, Nat.le_of_ble_eq_true rfl⟩) (te_V (C := RX7) (T9 := TX7) (N := 5) (ci := 7) (q0 := 0) hT hE hXE hS rfl rfl) rfl rfl hl.1 rfl (lv_room (Nat.le_of_ble_eq_true rfl)) dX7_mend_20 ⟨Nat.le_of_ble_eq_true rfl, Nat.le_of_ble_eq_true rfl⟩) hS (fun _ _ h => h) (fun _ h => h) (fun c20 ce q9 t locs hT hz hk hS e1 e2 e3 => ?_) (fun c20 t locs hT hz hk hS => ?_)
  · have hv := (if_neg c20).symm.trans hv
    exact x_out hout hlocks e1 e2 e3 (xc_w (k := (sX7_keptAnswer (va_up ((sX0_hold Os T).1) 0 ((sX1_mendWork (((sX0_hold Os T).1) 0) p1).2)) ((sX0_hold Os T).2) ((sX1_mendWork (((sX0_hold Os T).1) 0) p1).1)).1) c20 hv hT hS) hS.2.2 (Nat.le_of_ble_eq_true rfl) (Nat.le_of_ble_eq_true rfl)
  · have hv := (if_pos c20).symm.trans hv
    refine W.widen (k := 1) (n := 6) (Nat.le_of_ble_eq_true rfl) (Nat.le_of_ble_eq_true rfl) ?_
    refine vx_ret ?_
    exact W.iret (v := (sX7_keptAnswer (va_up ((sX0_hold Os T).1) 0 ((sX1_mendWork (((sX0_hold Os T).1) 0) p1).2)) ((sX0_hold Os T).2) ((sX1_mendWork (((sX0_hold Os T).1) 0) p1).1)).2.1) hx hb hr (fun t ht hW => ⟨⟨(sX7_keptAnswer (va_up ((sX0_hold Os T).1) 0 ((sX1_mendWork (((sX0_hold Os T).1) 0) p1).2)) ((sX0_hold Os T).2) ((sX1_mendWork (((sX0_hold Os T).1) 0) p1).1)).2.1, (((sX7_keptAnswer (va_up ((sX0_hold Os T).1) 0 ((sX1_mendWork (((sX0_hold Os T).1) 0) p1).2)) ((sX0_hold Os T).2) ((sX1_mendWork (((sX0_hold Os T).1) 0) p1).1)).2.2.1), ((sX7_keptAnswer (va_up ((sX0_hold Os T).1) 0 ((sX1_mendWork (((sX0_hold Os T).1) 0) p1).2)) ((sX0_hold Os T).2) ((sX1_mendWork (((sX0_hold Os T).1) 0) p1).1)).2.2.2)), rfl, xw_eq hv, tw ht hT⟩, hS.F ht⟩) hS.2.2 dX7_mend_23 (hlocks := hlocks)
theorem hd_X7_run : yX7_run.cls ≠ "java/lang/invoke/MethodHandle" ∧ yX7_run.cls ≠ "java/lang/invoke/VarHandle" ∧ (parseMethodDescriptor yX7_run.desc).map (fun d => d.parameters.length) = some 1 := by decide +kernel
def sX7_run (Os : Nat → OF) (T : OF) (p1 : Int32) : Nat × Int32 × TSt := (if (sX7_keptAnswer (va_up ((sX0_hold Os T).1) 0 ((sX1_passDays (((sX0_hold Os T).1) 0) p1).2)) ((sX0_hold Os T).2) ((sX1_passDays (((sX0_hold Os T).1) 0) p1).1)).1 = 0 then (0, (sX7_keptAnswer (va_up ((sX0_hold Os T).1) 0 ((sX1_passDays (((sX0_hold Os T).1) 0) p1).2)) ((sX0_hold Os T).2) ((sX1_passDays (((sX0_hold Os T).1) 0) p1).1)).2.1, (((sX7_keptAnswer (va_up ((sX0_hold Os T).1) 0 ((sX1_passDays (((sX0_hold Os T).1) 0) p1).2)) ((sX0_hold Os T).2) ((sX1_passDays (((sX0_hold Os T).1) 0) p1).1)).2.2.1), ((sX7_keptAnswer (va_up ((sX0_hold Os T).1) 0 ((sX1_passDays (((sX0_hold Os T).1) 0) p1).2)) ((sX0_hold Os T).2) ((sX1_passDays (((sX0_hold Os T).1) 0) p1).1)).2.2.2))) else ((sX7_keptAnswer (va_up ((sX0_hold Os T).1) 0 ((sX1_passDays (((sX0_hold Os T).1) 0) p1).2)) ((sX0_hold Os T).2) ((sX1_passDays (((sX0_hold Os T).1) 0) p1).1)).1, 0, (((sX7_keptAnswer (va_up ((sX0_hold Os T).1) 0 ((sX1_passDays (((sX0_hold Os T).1) 0) p1).2)) ((sX0_hold Os T).2) ((sX1_passDays (((sX0_hold Os T).1) 0) p1).1)).2.2.1), ((sX7_keptAnswer (va_up ((sX0_hold Os T).1) 0 ((sX1_passDays (((sX0_hold Os T).1) 0) p1).2)) ((sX0_hold Os T).2) ((sX1_passDays (((sX0_hold Os T).1) 0) p1).1)).2.2.2))))
set_option maxHeartbeats 4000000 in
set_option maxRecDepth 100000 in
theorem c_X7_run (l : Launch) (D : va_G) (cs : Nat → ClassId) (z : Nat → Nat) (A : Nat → Nat → Nat) (adK adV : Nat → Nat) (Os : Nat → OF) (T : OF) (p1 : Int32) (hd : tD z A) (hlst : l.stackTraces = false) (hn : vp_in (T.1 4) 15) : vx_Met l yX7_run (wc yX7_run cX7_run 2 (some .int)) ({ frames := 7, cells := 1, slots := 6, locals := 132 } : Room) (va_Pc [.ref (z 0), .int p1] (TE D cs z A adK adV Os T)) (xwQ D cs z A (sX7_run Os T p1)) (xwX D cs z A (sX7_run Os T p1)) 1 6 (tA z A) := by
  obtain ⟨v, hv⟩ : ∃ v, sX7_run Os T p1 = v := ⟨_, rfl⟩
  rw [hv]
  refine met_x (lv := [(0, .ref (z 0)), (1, .int p1)]) (by decide) (Nat.le_of_ble_eq_true rfl) rfl ?_
  intro p e s m args below meth c ls hx hb hr hml hts hown hlocks hout hB0 hl
  obtain ⟨⟨hT, hE⟩, hXE⟩ := hB0
  have hown : s.vm.findClass RX7 = some m.cls := hown
  have hK := hE.1
  have hS : va_S (tA z A) s.heap s.heap [] := va_S.rf
  unfold sX7_run at hv
  refine lv_aload_n hx hb dX7_run_0 rfl (lv_at hl 0 rfl) ?_
  refine va_get (D := D) (ci := 7) (v := .ref (z 6)) (C := RX7) (T := TX7) (N := 5) hx hb hts iw_X7 hown hK hT.1 0 rfl rfl 3 (by decide) (hts _ w_fl_X7_29) (fun _ h9 => h9) rfl dX7_run_1 ?_
  refine lv_aload_n hx hb dX7_run_4 rfl (lv_at hl 0 rfl) ?_
  refine va_get (D := D) (ci := 7) (v := .ref (A 0 0)) (C := RX7) (T := TX7) (N := 5) hx hb hts iw_X7 hown hK hT.1 0 rfl rfl 1 (by decide) (hts _ w_fl_X7_19) (fun _ h9 => h9) rfl dX7_run_5 ?_
  refine w_v (sX0_hold Os T) (va_runV (As := [.ref (A 0 0)]) (rest := []) ⟨hx, hb, hml, hown, hts⟩ (c_X0_hold l D cs z A adK adV Os T hd hn) (cwV 1 hts (good_V w_ml_X7_161 w_im_X0_hold w_se_X0_hold w_in_X0 w_co_X0_hold) rfl rfl rfl ⟨rfl, hd_X0_hold⟩ ⟨Nat.le_of_ble_eq_true rfl, Nat.le_of_ble_eq_true rfl⟩) (te_V (C := RX0) (T9 := TX0) (N := 3) (ci := 0) (q0 := 6) hT hE hXE hS rfl rfl) rfl rfl hl.1 rfl (lv_room (Nat.le_of_ble_eq_true rfl)) dX7_run_8 ⟨Nat.le_of_ble_eq_true rfl, Nat.le_of_ble_eq_true rfl⟩) hS (fun _ _ h => h) (fun _ h => h) (fun t locs hB hz hk hS => ?_)
  have hT : tsP D cs z A ((sX0_hold Os T).1) ((sX0_hold Os T).2) t.heap := hB
  refine lv_aload_n hx hb dX7_run_11 rfl (lv_at hl 0 rfl) ?_
  refine lv_aload_n hx hb dX7_run_12 rfl (lv_at hl 0 rfl) ?_
  refine va_get (D := D) (ci := 7) (v := .ref (A 0 0)) (C := RX7) (T := TX7) (N := 5) hx hb hts iw_X7 hown hK hT.1 0 rfl rfl 1 (by decide) (hts _ w_fl_X7_19) (fun _ h9 => h9) rfl dX7_run_13 ?_
  refine lv_iload_n hx hb dX7_run_16 rfl (lv_at hl 1 rfl) ?_
  refine w_i (sX1_passDays (((sX0_hold Os T).1) 0) p1) (va_runV (As := [.int p1]) (rest := [.ref (z 0)]) ⟨hx, hb, hml, hown, hts⟩ (c_X1_passDays l D cs (A 0) (((sX0_hold Os T).1) 0) p1 (hd.o (k := 0) (by decide))) (cwV 1 hts (good_V w_ml_X7_192 w_im_X1_passDays w_se_X1_passDays w_in_X1 w_co_X1_passDays) rfl rfl rfl ⟨rfl, hd_X1_passDays⟩ ⟨Nat.le_of_ble_eq_true rfl, Nat.le_of_ble_eq_true rfl⟩) (pe_W (C := RX1) (T := TX1) (N := 6) (ci := 1) (q0 := 0) (hT.2 0 (by decide)) hE rfl rfl) rfl rfl hl.1 rfl (lv_room (Nat.le_of_ble_eq_true rfl)) dX7_run_17 ⟨Nat.le_of_ble_eq_true rfl, Nat.le_of_ble_eq_true rfl⟩) hS (fun _ _ h => Or.inr ⟨0, by decide, h⟩) (fun _ h => Or.inr ⟨0, by decide, h⟩) (fun t locs hB hz hk hS => ?_)
  have hT : tsP D cs z A (va_up ((sX0_hold Os T).1) 0 ((sX1_passDays (((sX0_hold Os T).1) 0) p1).2)) ((sX0_hold Os T).2) t.heap := t_of hd hT (by decide) hk hB
  refine x_w (sX7_keptAnswer (va_up ((sX0_hold Os T).1) 0 ((sX1_passDays (((sX0_hold Os T).1) 0) p1).2)) ((sX0_hold Os T).2) ((sX1_passDays (((sX0_hold Os T).1) 0) p1).1)) (vx_runV (As := [.int ((sX1_passDays (((sX0_hold Os T).1) 0) p1).1)]) (rest := []) ⟨hx, hb, hml, hown, hts⟩ (c_X7_keptAnswer l D cs z A adK adV (va_up ((sX0_hold Os T).1) 0 ((sX1_passDays (((sX0_hold Os T).1) 0) p1).2)) ((sX0_hold Os T).2) ((sX1_passDays (((sX0_hold Os T).1) 0) p1).1) hd hlst) (cwV 1 hts (good_V w_ml_X7_168 w_im_X7_keptAnswer w_se_X7_keptAnswer w_in_X7 w_co_X7_keptAnswer) rfl rfl rfl ⟨rfl, hd_X7_keptAnswer⟩ ⟨Nat.le_of_ble_eq_true rfl, Nat.le_of_ble_eq_true rfl⟩) (te_V (C := RX7) (T9 := TX7) (N := 5) (ci := 7) (q0 := 0) hT hE hXE hS rfl rfl) rfl rfl hl.1 rfl (lv_room (Nat.le_of_ble_eq_true rfl)) dX7_run_20 ⟨Nat.le_of_ble_eq_true rfl, Nat.le_of_ble_eq_true rfl⟩) hS (fun _ _ h => h) (fun _ h => h) (fun c20 ce q9 t locs hT hz hk hS e1 e2 e3 => ?_) (fun c20 t locs hT hz hk hS => ?_)
  · have hv := (if_neg c20).symm.trans hv
    exact x_out hout hlocks e1 e2 e3 (xc_w (k := (sX7_keptAnswer (va_up ((sX0_hold Os T).1) 0 ((sX1_passDays (((sX0_hold Os T).1) 0) p1).2)) ((sX0_hold Os T).2) ((sX1_passDays (((sX0_hold Os T).1) 0) p1).1)).1) c20 hv hT hS) hS.2.2 (Nat.le_of_ble_eq_true rfl) (Nat.le_of_ble_eq_true rfl)
  · have hv := (if_pos c20).symm.trans hv
    refine W.widen (k := 1) (n := 6) (Nat.le_of_ble_eq_true rfl) (Nat.le_of_ble_eq_true rfl) ?_
    refine vx_ret ?_
    exact W.iret (v := (sX7_keptAnswer (va_up ((sX0_hold Os T).1) 0 ((sX1_passDays (((sX0_hold Os T).1) 0) p1).2)) ((sX0_hold Os T).2) ((sX1_passDays (((sX0_hold Os T).1) 0) p1).1)).2.1) hx hb hr (fun t ht hW => ⟨⟨(sX7_keptAnswer (va_up ((sX0_hold Os T).1) 0 ((sX1_passDays (((sX0_hold Os T).1) 0) p1).2)) ((sX0_hold Os T).2) ((sX1_passDays (((sX0_hold Os T).1) 0) p1).1)).2.1, (((sX7_keptAnswer (va_up ((sX0_hold Os T).1) 0 ((sX1_passDays (((sX0_hold Os T).1) 0) p1).2)) ((sX0_hold Os T).2) ((sX1_passDays (((sX0_hold Os T).1) 0) p1).1)).2.2.1), ((sX7_keptAnswer (va_up ((sX0_hold Os T).1) 0 ((sX1_passDays (((sX0_hold Os T).1) 0) p1).2)) ((sX0_hold Os T).2) ((sX1_passDays (((sX0_hold Os T).1) 0) p1).1)).2.2.2)), rfl, xw_eq hv, tw ht hT⟩, hS.F ht⟩) hS.2.2 dX7_run_23 (hlocks := hlocks)
theorem hd_X7_set : yX7_set.cls ≠ "java/lang/invoke/MethodHandle" ∧ yX7_set.cls ≠ "java/lang/invoke/VarHandle" ∧ (parseMethodDescriptor yX7_set.desc).map (fun d => d.parameters.length) = some 2 := by decide +kernel
def sX7_set (Os : Nat → OF) (T : OF) (p1 : Int32) (p2 : Int32) : Nat × Int32 × TSt := (if (sX7_keptAnswer (va_up ((sX0_hold Os T).1) 0 ((sX1_changeSetting (((sX0_hold Os T).1) 0) p1 p2).2)) ((sX0_hold Os T).2) ((sX1_changeSetting (((sX0_hold Os T).1) 0) p1 p2).1)).1 = 0 then (0, (sX7_keptAnswer (va_up ((sX0_hold Os T).1) 0 ((sX1_changeSetting (((sX0_hold Os T).1) 0) p1 p2).2)) ((sX0_hold Os T).2) ((sX1_changeSetting (((sX0_hold Os T).1) 0) p1 p2).1)).2.1, (((sX7_keptAnswer (va_up ((sX0_hold Os T).1) 0 ((sX1_changeSetting (((sX0_hold Os T).1) 0) p1 p2).2)) ((sX0_hold Os T).2) ((sX1_changeSetting (((sX0_hold Os T).1) 0) p1 p2).1)).2.2.1), ((sX7_keptAnswer (va_up ((sX0_hold Os T).1) 0 ((sX1_changeSetting (((sX0_hold Os T).1) 0) p1 p2).2)) ((sX0_hold Os T).2) ((sX1_changeSetting (((sX0_hold Os T).1) 0) p1 p2).1)).2.2.2))) else ((sX7_keptAnswer (va_up ((sX0_hold Os T).1) 0 ((sX1_changeSetting (((sX0_hold Os T).1) 0) p1 p2).2)) ((sX0_hold Os T).2) ((sX1_changeSetting (((sX0_hold Os T).1) 0) p1 p2).1)).1, 0, (((sX7_keptAnswer (va_up ((sX0_hold Os T).1) 0 ((sX1_changeSetting (((sX0_hold Os T).1) 0) p1 p2).2)) ((sX0_hold Os T).2) ((sX1_changeSetting (((sX0_hold Os T).1) 0) p1 p2).1)).2.2.1), ((sX7_keptAnswer (va_up ((sX0_hold Os T).1) 0 ((sX1_changeSetting (((sX0_hold Os T).1) 0) p1 p2).2)) ((sX0_hold Os T).2) ((sX1_changeSetting (((sX0_hold Os T).1) 0) p1 p2).1)).2.2.2))))
set_option maxHeartbeats 4000000 in
set_option maxRecDepth 100000 in
theorem c_X7_set (l : Launch) (D : va_G) (cs : Nat → ClassId) (z : Nat → Nat) (A : Nat → Nat → Nat) (adK adV : Nat → Nat) (Os : Nat → OF) (T : OF) (p1 : Int32) (p2 : Int32) (hd : tD z A) (hlst : l.stackTraces = false) (hn : vp_in (T.1 4) 15) : vx_Met l yX7_set (wc yX7_set cX7_set 3 (some .int)) ({ frames := 7, cells := 1, slots := 6, locals := 132 } : Room) (va_Pc [.ref (z 0), .int p1, .int p2] (TE D cs z A adK adV Os T)) (xwQ D cs z A (sX7_set Os T p1 p2)) (xwX D cs z A (sX7_set Os T p1 p2)) 1 6 (tA z A) := by
  obtain ⟨v, hv⟩ : ∃ v, sX7_set Os T p1 p2 = v := ⟨_, rfl⟩
  rw [hv]
  refine met_x (lv := [(0, .ref (z 0)), (1, .int p1), (2, .int p2)]) (by decide) (Nat.le_of_ble_eq_true rfl) rfl ?_
  intro p e s m args below meth c ls hx hb hr hml hts hown hlocks hout hB0 hl
  obtain ⟨⟨hT, hE⟩, hXE⟩ := hB0
  have hown : s.vm.findClass RX7 = some m.cls := hown
  have hK := hE.1
  have hS : va_S (tA z A) s.heap s.heap [] := va_S.rf
  unfold sX7_set at hv
  refine lv_aload_n hx hb dX7_set_0 rfl (lv_at hl 0 rfl) ?_
  refine va_get (D := D) (ci := 7) (v := .ref (z 6)) (C := RX7) (T := TX7) (N := 5) hx hb hts iw_X7 hown hK hT.1 0 rfl rfl 3 (by decide) (hts _ w_fl_X7_29) (fun _ h9 => h9) rfl dX7_set_1 ?_
  refine lv_aload_n hx hb dX7_set_4 rfl (lv_at hl 0 rfl) ?_
  refine va_get (D := D) (ci := 7) (v := .ref (A 0 0)) (C := RX7) (T := TX7) (N := 5) hx hb hts iw_X7 hown hK hT.1 0 rfl rfl 1 (by decide) (hts _ w_fl_X7_19) (fun _ h9 => h9) rfl dX7_set_5 ?_
  refine w_v (sX0_hold Os T) (va_runV (As := [.ref (A 0 0)]) (rest := []) ⟨hx, hb, hml, hown, hts⟩ (c_X0_hold l D cs z A adK adV Os T hd hn) (cwV 1 hts (good_V w_ml_X7_161 w_im_X0_hold w_se_X0_hold w_in_X0 w_co_X0_hold) rfl rfl rfl ⟨rfl, hd_X0_hold⟩ ⟨Nat.le_of_ble_eq_true rfl, Nat.le_of_ble_eq_true rfl⟩) (te_V (C := RX0) (T9 := TX0) (N := 3) (ci := 0) (q0 := 6) hT hE hXE hS rfl rfl) rfl rfl hl.1 rfl (lv_room (Nat.le_of_ble_eq_true rfl)) dX7_set_8 ⟨Nat.le_of_ble_eq_true rfl, Nat.le_of_ble_eq_true rfl⟩) hS (fun _ _ h => h) (fun _ h => h) (fun t locs hB hz hk hS => ?_)
  have hT : tsP D cs z A ((sX0_hold Os T).1) ((sX0_hold Os T).2) t.heap := hB
  refine lv_aload_n hx hb dX7_set_11 rfl (lv_at hl 0 rfl) ?_
  refine lv_aload_n hx hb dX7_set_12 rfl (lv_at hl 0 rfl) ?_
  refine va_get (D := D) (ci := 7) (v := .ref (A 0 0)) (C := RX7) (T := TX7) (N := 5) hx hb hts iw_X7 hown hK hT.1 0 rfl rfl 1 (by decide) (hts _ w_fl_X7_19) (fun _ h9 => h9) rfl dX7_set_13 ?_
  refine lv_iload_n hx hb dX7_set_16 rfl (lv_at hl 1 rfl) ?_
  refine lv_iload_n hx hb dX7_set_17 rfl (lv_at hl 2 rfl) ?_
  refine w_i (sX1_changeSetting (((sX0_hold Os T).1) 0) p1 p2) (va_runV (As := [.int p1, .int p2]) (rest := [.ref (z 0)]) ⟨hx, hb, hml, hown, hts⟩ (c_X1_changeSetting l D cs (A 0) (((sX0_hold Os T).1) 0) p1 p2 (hd.o (k := 0) (by decide))) (cwV 2 hts (good_V w_ml_X7_195 w_im_X1_changeSetting w_se_X1_changeSetting w_in_X1 w_co_X1_changeSetting) rfl rfl rfl ⟨rfl, hd_X1_changeSetting⟩ ⟨Nat.le_of_ble_eq_true rfl, Nat.le_of_ble_eq_true rfl⟩) (pe_W (C := RX1) (T := TX1) (N := 6) (ci := 1) (q0 := 0) (hT.2 0 (by decide)) hE rfl rfl) rfl rfl hl.1 rfl (lv_room (Nat.le_of_ble_eq_true rfl)) dX7_set_18 ⟨Nat.le_of_ble_eq_true rfl, Nat.le_of_ble_eq_true rfl⟩) hS (fun _ _ h => Or.inr ⟨0, by decide, h⟩) (fun _ h => Or.inr ⟨0, by decide, h⟩) (fun t locs hB hz hk hS => ?_)
  have hT : tsP D cs z A (va_up ((sX0_hold Os T).1) 0 ((sX1_changeSetting (((sX0_hold Os T).1) 0) p1 p2).2)) ((sX0_hold Os T).2) t.heap := t_of hd hT (by decide) hk hB
  refine x_w (sX7_keptAnswer (va_up ((sX0_hold Os T).1) 0 ((sX1_changeSetting (((sX0_hold Os T).1) 0) p1 p2).2)) ((sX0_hold Os T).2) ((sX1_changeSetting (((sX0_hold Os T).1) 0) p1 p2).1)) (vx_runV (As := [.int ((sX1_changeSetting (((sX0_hold Os T).1) 0) p1 p2).1)]) (rest := []) ⟨hx, hb, hml, hown, hts⟩ (c_X7_keptAnswer l D cs z A adK adV (va_up ((sX0_hold Os T).1) 0 ((sX1_changeSetting (((sX0_hold Os T).1) 0) p1 p2).2)) ((sX0_hold Os T).2) ((sX1_changeSetting (((sX0_hold Os T).1) 0) p1 p2).1) hd hlst) (cwV 1 hts (good_V w_ml_X7_168 w_im_X7_keptAnswer w_se_X7_keptAnswer w_in_X7 w_co_X7_keptAnswer) rfl rfl rfl ⟨rfl, hd_X7_keptAnswer⟩ ⟨Nat.le_of_ble_eq_true rfl, Nat.le_of_ble_eq_true rfl⟩) (te_V (C := RX7) (T9 := TX7) (N := 5) (ci := 7) (q0 := 0) hT hE hXE hS rfl rfl) rfl rfl hl.1 rfl (lv_room (Nat.le_of_ble_eq_true rfl)) dX7_set_21 ⟨Nat.le_of_ble_eq_true rfl, Nat.le_of_ble_eq_true rfl⟩) hS (fun _ _ h => h) (fun _ h => h) (fun c21 ce q9 t locs hT hz hk hS e1 e2 e3 => ?_) (fun c21 t locs hT hz hk hS => ?_)
  · have hv := (if_neg c21).symm.trans hv
    exact x_out hout hlocks e1 e2 e3 (xc_w (k := (sX7_keptAnswer (va_up ((sX0_hold Os T).1) 0 ((sX1_changeSetting (((sX0_hold Os T).1) 0) p1 p2).2)) ((sX0_hold Os T).2) ((sX1_changeSetting (((sX0_hold Os T).1) 0) p1 p2).1)).1) c21 hv hT hS) hS.2.2 (Nat.le_of_ble_eq_true rfl) (Nat.le_of_ble_eq_true rfl)
  · have hv := (if_pos c21).symm.trans hv
    refine W.widen (k := 1) (n := 6) (Nat.le_of_ble_eq_true rfl) (Nat.le_of_ble_eq_true rfl) ?_
    refine vx_ret ?_
    exact W.iret (v := (sX7_keptAnswer (va_up ((sX0_hold Os T).1) 0 ((sX1_changeSetting (((sX0_hold Os T).1) 0) p1 p2).2)) ((sX0_hold Os T).2) ((sX1_changeSetting (((sX0_hold Os T).1) 0) p1 p2).1)).2.1) hx hb hr (fun t ht hW => ⟨⟨(sX7_keptAnswer (va_up ((sX0_hold Os T).1) 0 ((sX1_changeSetting (((sX0_hold Os T).1) 0) p1 p2).2)) ((sX0_hold Os T).2) ((sX1_changeSetting (((sX0_hold Os T).1) 0) p1 p2).1)).2.1, (((sX7_keptAnswer (va_up ((sX0_hold Os T).1) 0 ((sX1_changeSetting (((sX0_hold Os T).1) 0) p1 p2).2)) ((sX0_hold Os T).2) ((sX1_changeSetting (((sX0_hold Os T).1) 0) p1 p2).1)).2.2.1), ((sX7_keptAnswer (va_up ((sX0_hold Os T).1) 0 ((sX1_changeSetting (((sX0_hold Os T).1) 0) p1 p2).2)) ((sX0_hold Os T).2) ((sX1_changeSetting (((sX0_hold Os T).1) 0) p1 p2).1)).2.2.2)), rfl, xw_eq hv, tw ht hT⟩, hS.F ht⟩) hS.2.2 dX7_set_24 (hlocks := hlocks)
theorem hd_X7_undo : yX7_undo.cls ≠ "java/lang/invoke/MethodHandle" ∧ yX7_undo.cls ≠ "java/lang/invoke/VarHandle" ∧ (parseMethodDescriptor yX7_undo.desc).map (fun d => d.parameters.length) = some 0 := by decide +kernel
def sX7_undo (Os : Nat → OF) (T : OF) : Nat × Int32 × TSt := (if (sX0_isEmpty T) = true then (2, 0, (Os, T)) else (0, (sX0_takeBackInto Os T).1, (((sX0_takeBackInto Os T).2.1), ((sX0_takeBackInto Os T).2.2))))
set_option maxHeartbeats 4000000 in
set_option maxRecDepth 100000 in
theorem c_X7_undo (l : Launch) (D : va_G) (cs : Nat → ClassId) (z : Nat → Nat) (A : Nat → Nat → Nat) (adK adV : Nat → Nat) (Os : Nat → OF) (T : OF) (hd : tD z A) (hlst : l.stackTraces = false) (hn : vp_in (T.1 4) 15) : vx_Met l yX7_undo (wc yX7_undo cX7_undo 1 (some .int)) ({ frames := 6, cells := 1, slots := 6, locals := 132 } : Room) (va_Pc [.ref (z 0)] (TE D cs z A adK adV Os T)) (xwQ D cs z A (sX7_undo Os T)) (xwX D cs z A (sX7_undo Os T)) 1 6 (tA z A) := by
  obtain ⟨v, hv⟩ : ∃ v, sX7_undo Os T = v := ⟨_, rfl⟩
  rw [hv]
  refine met_x (lv := [(0, .ref (z 0))]) (by decide) (Nat.le_of_ble_eq_true rfl) rfl ?_
  intro p e s m args below meth c ls hx hb hr hml hts hown hlocks hout hB0 hl
  obtain ⟨⟨hT, hE⟩, hXE⟩ := hB0
  have hown : s.vm.findClass RX7 = some m.cls := hown
  have hK := hE.1
  have hS : va_S (tA z A) s.heap s.heap [] := va_S.rf
  unfold sX7_undo at hv
  refine lv_aload_n hx hb dX7_undo_0 rfl (lv_at hl 0 rfl) ?_
  refine va_get (D := D) (ci := 7) (v := .ref (z 6)) (C := RX7) (T := TX7) (N := 5) hx hb hts iw_X7 hown hK hT.1 0 rfl rfl 3 (by decide) (hts _ w_fl_X7_29) (fun _ h9 => h9) rfl dX7_undo_1 ?_
  refine ro_i (b2i (sX0_isEmpty T)) (run_c (va_runV (As := []) (rest := []) ⟨hx, hb, hml, hown, hts⟩ (c_X0_isEmpty l D cs z A T) (cwV 0 hts (good_V w_ml_X7_198 w_im_X0_isEmpty w_se_X0_isEmpty w_in_X0 w_co_X0_isEmpty) rfl rfl rfl ⟨rfl, hd_X0_isEmpty⟩ ⟨Nat.le_of_ble_eq_true rfl, Nat.le_of_ble_eq_true rfl⟩) (pe_W (C := RX0) (T := TX0) (N := 3) (ci := 0) (q0 := 6) hT.1 hE rfl rfl) rfl rfl hl.1 rfl (lv_room (Nat.le_of_ble_eq_true rfl)) dX7_undo_4 ⟨Nat.le_of_ble_eq_true rfl, Nat.le_of_ble_eq_true rfl⟩)) ?_
  refine lv_if_eq (tgt := 20) hx hb dX7_undo_7 (by decide) (fun c7 => ?_) (fun c7 => ?_)
  · have c7 := b2i_f c7
    have hv := (if_neg c7).symm.trans hv
    refine lv_aload_n hx hb dX7_undo_20 rfl (lv_at hl 0 rfl) ?_
    refine va_get (D := D) (ci := 7) (v := .ref (z 6)) (C := RX7) (T := TX7) (N := 5) hx hb hts iw_X7 hown hK hT.1 0 rfl rfl 3 (by decide) (hts _ w_fl_X7_29) (fun _ h9 => h9) rfl dX7_undo_21 ?_
    refine lv_aload_n hx hb dX7_undo_24 rfl (lv_at hl 0 rfl) ?_
    refine va_get (D := D) (ci := 7) (v := .ref (A 0 0)) (C := RX7) (T := TX7) (N := 5) hx hb hts iw_X7 hown hK hT.1 0 rfl rfl 1 (by decide) (hts _ w_fl_X7_19) (fun _ h9 => h9) rfl dX7_undo_25 ?_
    refine w_i (sX0_takeBackInto Os T) (va_runV (As := [.ref (A 0 0)]) (rest := []) ⟨hx, hb, hml, hown, hts⟩ (c_X0_takeBackInto l D cs z A adK adV Os T hd hn) (cwV 1 hts (good_V w_ml_X7_203 w_im_X0_takeBackInto w_se_X0_takeBackInto w_in_X0 w_co_X0_takeBackInto) rfl rfl rfl ⟨rfl, hd_X0_takeBackInto⟩ ⟨Nat.le_of_ble_eq_true rfl, Nat.le_of_ble_eq_true rfl⟩) (te_V (C := RX0) (T9 := TX0) (N := 3) (ci := 0) (q0 := 6) hT hE hXE hS rfl rfl) rfl rfl hl.1 rfl (lv_room (Nat.le_of_ble_eq_true rfl)) dX7_undo_28 ⟨Nat.le_of_ble_eq_true rfl, Nat.le_of_ble_eq_true rfl⟩) hS (fun _ _ h => h) (fun _ h => h) (fun t locs hB hz hk hS => ?_)
    have hT : tsP D cs z A ((sX0_takeBackInto Os T).2.1) ((sX0_takeBackInto Os T).2.2) t.heap := hB
    refine W.widen (k := 1) (n := 6) (Nat.le_of_ble_eq_true rfl) (Nat.le_of_ble_eq_true rfl) ?_
    refine vx_ret ?_
    exact W.iret (v := (sX0_takeBackInto Os T).1) hx hb hr (fun t ht hW => ⟨⟨(sX0_takeBackInto Os T).1, (((sX0_takeBackInto Os T).2.1), ((sX0_takeBackInto Os T).2.2)), rfl, xw_eq hv, tw ht hT⟩, hS.F ht⟩) hS.2.2 dX7_undo_31 (hlocks := hlocks)
  · have c7 := b2i_t c7
    have hv := (if_pos c7).symm.trans hv
    obtain ⟨sa, hsa⟩ := hXE.2.2.2.2 (201, "no state is remembered") (List.mem_of_getElem? (i := 12) rfl)
    exact thr_2 hx hb hlst hown hts hXE hsa hS (by rw [hml]; exact hl.1) dX7_undo_10 dX7_undo_13 dX7_undo_14 dX7_undo_16 dX7_undo_19 hout (Nat.le_of_ble_eq_true rfl) (Nat.le_of_ble_eq_true rfl) (Nat.le_of_ble_eq_true rfl) (Nat.le_of_ble_eq_true rfl) hlocks (xc_w (k := 2) (by decide) hv hT hS) hS.2.2 (Nat.le_of_ble_eq_true rfl) (Nat.le_of_ble_eq_true rfl)
theorem hd_X7_errorPosition : yX7_errorPosition.cls ≠ "java/lang/invoke/MethodHandle" ∧ yX7_errorPosition.cls ≠ "java/lang/invoke/VarHandle" ∧ (parseMethodDescriptor yX7_errorPosition.desc).map (fun d => d.parameters.length) = some 0 := by decide +kernel
def sX7_errorPosition (Os : Nat → OF) (T : OF) : Int32 × TSt := ((sX2_readOrders T).1, (Os, ((sX2_readOrders T).2)))
set_option maxHeartbeats 4000000 in
set_option maxRecDepth 100000 in
theorem c_X7_errorPosition (l : Launch) (D : va_G) (cs : Nat → ClassId) (z : Nat → Nat) (A : Nat → Nat → Nat) (adK adV : Nat → Nat) (Os : Nat → OF) (T : OF) (hd : tD z A) : Met l yX7_errorPosition (wc yX7_errorPosition cX7_errorPosition 1 (some .int)) ({ frames := 8, cells := 0, slots := 0, locals := 173 } : Room) (va_Pc [.ref (z 0)] (TE D cs z A adK adV Os T)) (va_Qi (fun (r9 : Int32) (u : TSt) => r9 = (sX7_errorPosition Os T).1 ∧ u = (sX7_errorPosition Os T).2) (fun u t => tsP D cs z A u.1 u.2 t.heap) (tA z A)) 0 0 (tA z A) := by
  obtain ⟨v, hv⟩ : ∃ v, sX7_errorPosition Os T = v := ⟨_, rfl⟩
  rw [hv]
  refine met_g (lv := [(0, .ref (z 0))]) (by decide) (Nat.le_of_ble_eq_true rfl) rfl ?_
  intro p e s m args below meth c ls hx hb hr hml hts hown hlocks hin hB0 hl
  obtain ⟨⟨hT, hE⟩, hXE⟩ := hB0
  have hown : s.vm.findClass RX7 = some m.cls := hown
  have hK := hE.1
  have hS : va_S (tA z A) s.heap s.heap [] := va_S.rf
  unfold sX7_errorPosition at hv
  refine lv_aload_n hx hb dX7_errorPosition_0 rfl (lv_at hl 0 rfl) ?_
  refine va_get (D := D) (ci := 7) (v := .ref (z 1)) (C := RX7) (T := TX7) (N := 5) hx hb hts iw_X7 hown hK hT.1 0 rfl rfl 0 (by decide) (hts _ w_fl_X7_12) (fun _ h9 => h9) rfl dX7_errorPosition_1 ?_
  refine w_i (sX2_readOrders T) (va_runV (As := []) (rest := []) ⟨hx, hb, hml, hown, hts⟩ (c_X2_readOrders l D cs z A T adK adV hd) (cwV 0 hts (good_V w_ml_X7_64 w_im_X2_readOrders w_se_X2_readOrders w_in_X2 w_co_X2_readOrders) rfl rfl rfl ⟨rfl, hd_X2_readOrders⟩ ⟨Nat.le_of_ble_eq_true rfl, Nat.le_of_ble_eq_true rfl⟩) (zsx_V (C := RX2) (T9 := TX2) (N := 7) (ci := 2) (q0 := 1) hT.1 hE hXE hS rfl rfl) rfl rfl hl.1 rfl (lv_room (Nat.le_of_ble_eq_true rfl)) dX7_errorPosition_4 ⟨Nat.le_of_ble_eq_true rfl, Nat.le_of_ble_eq_true rfl⟩) hS (fun _ _ h => Or.inl h) (fun _ h => Or.inl h) (fun t locs hB hz hk hS => ?_)
  have hT : tsP D cs z A Os ((sX2_readOrders T).2) t.heap := t_z hd hT hk hB
  exact W.iret (v := (sX2_readOrders T).1) hx hb hr (fun t ht hW => ⟨⟨(sX2_readOrders T).1, (Os, ((sX2_readOrders T).2)), rfl, pair_eq hv, tw ht hT⟩, hS.F ht⟩) hS.2.2 dX7_errorPosition_7 (hlocks := hlocks)
theorem hd_X7_doOrder : yX7_doOrder.cls ≠ "java/lang/invoke/MethodHandle" ∧ yX7_doOrder.cls ≠ "java/lang/invoke/VarHandle" ∧ (parseMethodDescriptor yX7_doOrder.desc).map (fun d => d.parameters.length) = some 1 := by decide +kernel
def sX7_doOrder (Os : Nat → OF) (T : OF) (p1 : Int32) : Int32 × TSt := (if (sX2_wordOf T p1) = 0 then ((sX1_addSheet (Os 0) (sX2_firstOf T p1)).1, ((va_up Os 0 ((sX1_addSheet (Os 0) (sX2_firstOf T p1)).2)), T)) else (if (sX2_wordOf T p1) = 1 then ((sX1_reviseSheet (Os 0) (sX2_firstOf T p1) (sX2_secondOf T p1)).1, ((va_up Os 0 ((sX1_reviseSheet (Os 0) (sX2_firstOf T p1) (sX2_secondOf T p1)).2)), T)) else (if (sX2_wordOf T p1) = 2 then ((sX1_addPrint (Os 0) (sX2_firstOf T p1) (sX2_secondOf T p1)).1, ((va_up Os 0 ((sX1_addPrint (Os 0) (sX2_firstOf T p1) (sX2_secondOf T p1)).2)), T)) else (if (sX2_wordOf T p1) = 3 then ((sX1_stampPrint (Os 0) (sX2_firstOf T p1) (sX2_secondOf T p1)).1, ((va_up Os 0 ((sX1_stampPrint (Os 0) (sX2_firstOf T p1) (sX2_secondOf T p1)).2)), T)) else ((sX1_passDays (Os 0) (sX2_firstOf T p1)).1, ((va_up Os 0 ((sX1_passDays (Os 0) (sX2_firstOf T p1)).2)), T))))))
theorem doOrder_T (Os : Nat → OF) (T : OF) (p1 : Int32) : (sX7_doOrder Os T p1).2.2 = T := by
  unfold sX7_doOrder
  repeat (first | rfl | split)
set_option maxHeartbeats 4000000 in
set_option maxRecDepth 100000 in
theorem c_X7_doOrder (l : Launch) (D : va_G) (cs : Nat → ClassId) (z : Nat → Nat) (A : Nat → Nat → Nat) (adK adV : Nat → Nat) (Os : Nat → OF) (T : OF) (p1 : Int32) (hd : tD z A) : Met l yX7_doOrder (wc yX7_doOrder cX7_doOrder 4 (some .int)) ({ frames := 6, cells := 0, slots := 0, locals := 130 } : Room) (va_Pc [.ref (z 0), .int p1] (TE D cs z A adK adV Os T)) (va_Qi (fun (r9 : Int32) (u : TSt) => r9 = (sX7_doOrder Os T p1).1 ∧ u = (sX7_doOrder Os T p1).2) (fun u t => tsP D cs z A u.1 u.2 t.heap) (tA z A)) 0 0 (tA z A) := by
  obtain ⟨v, hv⟩ : ∃ v, sX7_doOrder Os T p1 = v := ⟨_, rfl⟩
  rw [hv]
  refine met_g (lv := [(0, .ref (z 0)), (1, .int p1)]) (by decide) (Nat.le_of_ble_eq_true rfl) rfl ?_
  intro p e s m args below meth c ls hx hb hr hml hts hown hlocks hin hB0 hl
  obtain ⟨⟨hT, hE⟩, hXE⟩ := hB0
  have hown : s.vm.findClass RX7 = some m.cls := hown
  have hK := hE.1
  have hS : va_S (tA z A) s.heap s.heap [] := va_S.rf
  unfold sX7_doOrder at hv
  refine lv_aload_n hx hb dX7_doOrder_0 rfl (lv_at hl 0 rfl) ?_
  refine va_get (D := D) (ci := 7) (v := .ref (z 1)) (C := RX7) (T := TX7) (N := 5) hx hb hts iw_X7 hown hK hT.1 0 rfl rfl 0 (by decide) (hts _ w_fl_X7_12) (fun _ h9 => h9) rfl dX7_doOrder_1 ?_
  refine lv_iload_n hx hb dX7_doOrder_4 rfl (lv_at hl 1 rfl) ?_
  refine ro_i (sX2_firstOf T p1) (run_c (va_runV (As := [.int p1]) (rest := []) ⟨hx, hb, hml, hown, hts⟩ (c_X2_firstOf l D cs z A T p1) (cwV 1 hts (good_V w_ml_X7_324 w_im_X2_firstOf w_se_X2_firstOf w_in_X2 w_co_X2_firstOf) rfl rfl rfl ⟨rfl, hd_X2_firstOf⟩ ⟨Nat.le_of_ble_eq_true rfl, Nat.le_of_ble_eq_true rfl⟩) (pe_W (C := RX2) (T := TX2) (N := 7) (ci := 2) (q0 := 1) hT.1 hE rfl rfl) rfl rfl hl.1 rfl (lv_room (Nat.le_of_ble_eq_true rfl)) dX7_doOrder_5 ⟨Nat.le_of_ble_eq_true rfl, Nat.le_of_ble_eq_true rfl⟩)) ?_
  refine lv_istore_n (lv' := [(2, .int (sX2_firstOf T p1)), (0, .ref (z 0)), (1, .int p1)]) hx hb dX7_doOrder_8 rfl hl (by decide) rfl (fun ls hl => ?_)
  refine lv_aload_n hx hb dX7_doOrder_9 rfl (lv_at hl 1 rfl) ?_
  refine va_get (D := D) (ci := 7) (v := .ref (z 1)) (C := RX7) (T := TX7) (N := 5) hx hb hts iw_X7 hown hK hT.1 0 rfl rfl 0 (by decide) (hts _ w_fl_X7_12) (fun _ h9 => h9) rfl dX7_doOrder_10 ?_
  refine lv_iload_n hx hb dX7_doOrder_13 rfl (lv_at hl 2 rfl) ?_
  refine ro_i (sX2_secondOf T p1) (run_c (va_runV (As := [.int p1]) (rest := []) ⟨hx, hb, hml, hown, hts⟩ (c_X2_secondOf l D cs z A T p1) (cwV 1 hts (good_V w_ml_X7_327 w_im_X2_secondOf w_se_X2_secondOf w_in_X2 w_co_X2_secondOf) rfl rfl rfl ⟨rfl, hd_X2_secondOf⟩ ⟨Nat.le_of_ble_eq_true rfl, Nat.le_of_ble_eq_true rfl⟩) (pe_W (C := RX2) (T := TX2) (N := 7) (ci := 2) (q0 := 1) hT.1 hE rfl rfl) rfl rfl hl.1 rfl (lv_room (Nat.le_of_ble_eq_true rfl)) dX7_doOrder_14 ⟨Nat.le_of_ble_eq_true rfl, Nat.le_of_ble_eq_true rfl⟩)) ?_
  refine lv_istore_n (lv' := [(3, .int (sX2_secondOf T p1)), (2, .int (sX2_firstOf T p1)), (0, .ref (z 0)), (1, .int p1)]) hx hb dX7_doOrder_17 rfl hl (by decide) rfl (fun ls hl => ?_)
  refine lv_aload_n hx hb dX7_doOrder_18 rfl (lv_at hl 2 rfl) ?_
  refine va_get (D := D) (ci := 7) (v := .ref (z 1)) (C := RX7) (T := TX7) (N := 5) hx hb hts iw_X7 hown hK hT.1 0 rfl rfl 0 (by decide) (hts _ w_fl_X7_12) (fun _ h9 => h9) rfl dX7_doOrder_19 ?_
  refine lv_iload_n hx hb dX7_doOrder_22 rfl (lv_at hl 3 rfl) ?_
  refine ro_i (sX2_wordOf T p1) (run_c (va_runV (As := [.int p1]) (rest := []) ⟨hx, hb, hml, hown, hts⟩ (c_X2_wordOf l D cs z A T p1) (cwV 1 hts (good_V w_ml_X7_330 w_im_X2_wordOf w_se_X2_wordOf w_in_X2 w_co_X2_wordOf) rfl rfl rfl ⟨rfl, hd_X2_wordOf⟩ ⟨Nat.le_of_ble_eq_true rfl, Nat.le_of_ble_eq_true rfl⟩) (pe_W (C := RX2) (T := TX2) (N := 7) (ci := 2) (q0 := 1) hT.1 hE rfl rfl) rfl rfl hl.1 rfl (lv_room (Nat.le_of_ble_eq_true rfl)) dX7_doOrder_23 ⟨Nat.le_of_ble_eq_true rfl, Nat.le_of_ble_eq_true rfl⟩)) ?_
  by_cases c26_0 : (sX2_wordOf T p1) = 0
  · have hv := (if_pos c26_0).symm.trans hv
    refine lv_tableIn (off := 30) (tgt := 56) hx hb dX7_doOrder_26 (by rw [c26_0]; decide) (by rw [c26_0]; decide) (by rw [c26_0]; rfl) (by decide) ?_
    refine lv_aload_n hx hb dX7_doOrder_56 rfl (lv_at hl 2 rfl) ?_
    refine va_get (D := D) (ci := 7) (v := .ref (A 0 0)) (C := RX7) (T := TX7) (N := 5) hx hb hts iw_X7 hown hK hT.1 0 rfl rfl 1 (by decide) (hts _ w_fl_X7_19) (fun _ h9 => h9) rfl dX7_doOrder_57 ?_
    refine lv_iload_n hx hb dX7_doOrder_60 rfl (lv_at hl 1 rfl) ?_
    refine w_i (sX1_addSheet (Os 0) (sX2_firstOf T p1)) (va_runV (As := [.int (sX2_firstOf T p1)]) (rest := []) ⟨hx, hb, hml, hown, hts⟩ (c_X1_addSheet l D cs (A 0) (Os 0) (sX2_firstOf T p1) (hd.o (k := 0) (by decide))) (cwV 1 hts (good_V w_ml_X7_165 w_im_X1_addSheet w_se_X1_addSheet w_in_X1 w_co_X1_addSheet) rfl rfl rfl ⟨rfl, hd_X1_addSheet⟩ ⟨Nat.le_of_ble_eq_true rfl, Nat.le_of_ble_eq_true rfl⟩) (pe_W (C := RX1) (T := TX1) (N := 6) (ci := 1) (q0 := 0) (hT.2 0 (by decide)) hE rfl rfl) rfl rfl hl.1 rfl (lv_room (Nat.le_of_ble_eq_true rfl)) dX7_doOrder_61 ⟨Nat.le_of_ble_eq_true rfl, Nat.le_of_ble_eq_true rfl⟩) hS (fun _ _ h => Or.inr ⟨0, by decide, h⟩) (fun _ h => Or.inr ⟨0, by decide, h⟩) (fun t locs hB hz hk hS => ?_)
    have hT : tsP D cs z A (va_up Os 0 ((sX1_addSheet (Os 0) (sX2_firstOf T p1)).2)) T t.heap := t_of hd hT (by decide) hk hB
    exact W.iret (v := (sX1_addSheet (Os 0) (sX2_firstOf T p1)).1) hx hb hr (fun t ht hW => ⟨⟨(sX1_addSheet (Os 0) (sX2_firstOf T p1)).1, ((va_up Os 0 ((sX1_addSheet (Os 0) (sX2_firstOf T p1)).2)), T), rfl, pair_eq hv, tw ht hT⟩, hS.F ht⟩) hS.2.2 dX7_doOrder_64 (hlocks := hlocks)
  · have hv := (if_neg c26_0).symm.trans hv
    by_cases c26_1 : (sX2_wordOf T p1) = 1
    · have hv := (if_pos c26_1).symm.trans hv
      refine lv_tableIn (off := 39) (tgt := 65) hx hb dX7_doOrder_26 (by rw [c26_1]; decide) (by rw [c26_1]; decide) (by rw [c26_1]; rfl) (by decide) ?_
      refine lv_aload_n hx hb dX7_doOrder_65 rfl (lv_at hl 2 rfl) ?_
      refine va_get (D := D) (ci := 7) (v := .ref (A 0 0)) (C := RX7) (T := TX7) (N := 5) hx hb hts iw_X7 hown hK hT.1 0 rfl rfl 1 (by decide) (hts _ w_fl_X7_19) (fun _ h9 => h9) rfl dX7_doOrder_66 ?_
      refine lv_iload_n hx hb dX7_doOrder_69 rfl (lv_at hl 1 rfl) ?_
      refine lv_iload_n hx hb dX7_doOrder_70 rfl (lv_at hl 0 rfl) ?_
      refine w_i (sX1_reviseSheet (Os 0) (sX2_firstOf T p1) (sX2_secondOf T p1)) (va_runV (As := [.int (sX2_firstOf T p1), .int (sX2_secondOf T p1)]) (rest := []) ⟨hx, hb, hml, hown, hts⟩ (c_X1_reviseSheet l D cs (A 0) (Os 0) (sX2_firstOf T p1) (sX2_secondOf T p1) (hd.o (k := 0) (by decide))) (cwV 2 hts (good_V w_ml_X7_171 w_im_X1_reviseSheet w_se_X1_reviseSheet w_in_X1 w_co_X1_reviseSheet) rfl rfl rfl ⟨rfl, hd_X1_reviseSheet⟩ ⟨Nat.le_of_ble_eq_true rfl, Nat.le_of_ble_eq_true rfl⟩) (pe_W (C := RX1) (T := TX1) (N := 6) (ci := 1) (q0 := 0) (hT.2 0 (by decide)) hE rfl rfl) rfl rfl hl.1 rfl (lv_room (Nat.le_of_ble_eq_true rfl)) dX7_doOrder_71 ⟨Nat.le_of_ble_eq_true rfl, Nat.le_of_ble_eq_true rfl⟩) hS (fun _ _ h => Or.inr ⟨0, by decide, h⟩) (fun _ h => Or.inr ⟨0, by decide, h⟩) (fun t locs hB hz hk hS => ?_)
      have hT : tsP D cs z A (va_up Os 0 ((sX1_reviseSheet (Os 0) (sX2_firstOf T p1) (sX2_secondOf T p1)).2)) T t.heap := t_of hd hT (by decide) hk hB
      exact W.iret (v := (sX1_reviseSheet (Os 0) (sX2_firstOf T p1) (sX2_secondOf T p1)).1) hx hb hr (fun t ht hW => ⟨⟨(sX1_reviseSheet (Os 0) (sX2_firstOf T p1) (sX2_secondOf T p1)).1, ((va_up Os 0 ((sX1_reviseSheet (Os 0) (sX2_firstOf T p1) (sX2_secondOf T p1)).2)), T), rfl, pair_eq hv, tw ht hT⟩, hS.F ht⟩) hS.2.2 dX7_doOrder_74 (hlocks := hlocks)
    · have hv := (if_neg c26_1).symm.trans hv
      by_cases c26_2 : (sX2_wordOf T p1) = 2
      · have hv := (if_pos c26_2).symm.trans hv
        refine lv_tableIn (off := 49) (tgt := 75) hx hb dX7_doOrder_26 (by rw [c26_2]; decide) (by rw [c26_2]; decide) (by rw [c26_2]; rfl) (by decide) ?_
        refine lv_aload_n hx hb dX7_doOrder_75 rfl (lv_at hl 2 rfl) ?_
        refine va_get (D := D) (ci := 7) (v := .ref (A 0 0)) (C := RX7) (T := TX7) (N := 5) hx hb hts iw_X7 hown hK hT.1 0 rfl rfl 1 (by decide) (hts _ w_fl_X7_19) (fun _ h9 => h9) rfl dX7_doOrder_76 ?_
        refine lv_iload_n hx hb dX7_doOrder_79 rfl (lv_at hl 1 rfl) ?_
        refine lv_iload_n hx hb dX7_doOrder_80 rfl (lv_at hl 0 rfl) ?_
        refine w_i (sX1_addPrint (Os 0) (sX2_firstOf T p1) (sX2_secondOf T p1)) (va_runV (As := [.int (sX2_firstOf T p1), .int (sX2_secondOf T p1)]) (rest := []) ⟨hx, hb, hml, hown, hts⟩ (c_X1_addPrint l D cs (A 0) (Os 0) (sX2_firstOf T p1) (sX2_secondOf T p1) (hd.o (k := 0) (by decide))) (cwV 2 hts (good_V w_ml_X7_177 w_im_X1_addPrint w_se_X1_addPrint w_in_X1 w_co_X1_addPrint) rfl rfl rfl ⟨rfl, hd_X1_addPrint⟩ ⟨Nat.le_of_ble_eq_true rfl, Nat.le_of_ble_eq_true rfl⟩) (pe_W (C := RX1) (T := TX1) (N := 6) (ci := 1) (q0 := 0) (hT.2 0 (by decide)) hE rfl rfl) rfl rfl hl.1 rfl (lv_room (Nat.le_of_ble_eq_true rfl)) dX7_doOrder_81 ⟨Nat.le_of_ble_eq_true rfl, Nat.le_of_ble_eq_true rfl⟩) hS (fun _ _ h => Or.inr ⟨0, by decide, h⟩) (fun _ h => Or.inr ⟨0, by decide, h⟩) (fun t locs hB hz hk hS => ?_)
        have hT : tsP D cs z A (va_up Os 0 ((sX1_addPrint (Os 0) (sX2_firstOf T p1) (sX2_secondOf T p1)).2)) T t.heap := t_of hd hT (by decide) hk hB
        exact W.iret (v := (sX1_addPrint (Os 0) (sX2_firstOf T p1) (sX2_secondOf T p1)).1) hx hb hr (fun t ht hW => ⟨⟨(sX1_addPrint (Os 0) (sX2_firstOf T p1) (sX2_secondOf T p1)).1, ((va_up Os 0 ((sX1_addPrint (Os 0) (sX2_firstOf T p1) (sX2_secondOf T p1)).2)), T), rfl, pair_eq hv, tw ht hT⟩, hS.F ht⟩) hS.2.2 dX7_doOrder_84 (hlocks := hlocks)
      · have hv := (if_neg c26_2).symm.trans hv
        by_cases c26_3 : (sX2_wordOf T p1) = 3
        · have hv := (if_pos c26_3).symm.trans hv
          refine lv_tableIn (off := 59) (tgt := 85) hx hb dX7_doOrder_26 (by rw [c26_3]; decide) (by rw [c26_3]; decide) (by rw [c26_3]; rfl) (by decide) ?_
          refine lv_aload_n hx hb dX7_doOrder_85 rfl (lv_at hl 2 rfl) ?_
          refine va_get (D := D) (ci := 7) (v := .ref (A 0 0)) (C := RX7) (T := TX7) (N := 5) hx hb hts iw_X7 hown hK hT.1 0 rfl rfl 1 (by decide) (hts _ w_fl_X7_19) (fun _ h9 => h9) rfl dX7_doOrder_86 ?_
          refine lv_iload_n hx hb dX7_doOrder_89 rfl (lv_at hl 1 rfl) ?_
          refine lv_iload_n hx hb dX7_doOrder_90 rfl (lv_at hl 0 rfl) ?_
          refine w_i (sX1_stampPrint (Os 0) (sX2_firstOf T p1) (sX2_secondOf T p1)) (va_runV (As := [.int (sX2_firstOf T p1), .int (sX2_secondOf T p1)]) (rest := []) ⟨hx, hb, hml, hown, hts⟩ (c_X1_stampPrint l D cs (A 0) (Os 0) (sX2_firstOf T p1) (sX2_secondOf T p1) (hd.o (k := 0) (by decide))) (cwV 2 hts (good_V w_ml_X7_180 w_im_X1_stampPrint w_se_X1_stampPrint w_in_X1 w_co_X1_stampPrint) rfl rfl rfl ⟨rfl, hd_X1_stampPrint⟩ ⟨Nat.le_of_ble_eq_true rfl, Nat.le_of_ble_eq_true rfl⟩) (pe_W (C := RX1) (T := TX1) (N := 6) (ci := 1) (q0 := 0) (hT.2 0 (by decide)) hE rfl rfl) rfl rfl hl.1 rfl (lv_room (Nat.le_of_ble_eq_true rfl)) dX7_doOrder_91 ⟨Nat.le_of_ble_eq_true rfl, Nat.le_of_ble_eq_true rfl⟩) hS (fun _ _ h => Or.inr ⟨0, by decide, h⟩) (fun _ h => Or.inr ⟨0, by decide, h⟩) (fun t locs hB hz hk hS => ?_)
          have hT : tsP D cs z A (va_up Os 0 ((sX1_stampPrint (Os 0) (sX2_firstOf T p1) (sX2_secondOf T p1)).2)) T t.heap := t_of hd hT (by decide) hk hB
          exact W.iret (v := (sX1_stampPrint (Os 0) (sX2_firstOf T p1) (sX2_secondOf T p1)).1) hx hb hr (fun t ht hW => ⟨⟨(sX1_stampPrint (Os 0) (sX2_firstOf T p1) (sX2_secondOf T p1)).1, ((va_up Os 0 ((sX1_stampPrint (Os 0) (sX2_firstOf T p1) (sX2_secondOf T p1)).2)), T), rfl, pair_eq hv, tw ht hT⟩, hS.F ht⟩) hS.2.2 dX7_doOrder_94 (hlocks := hlocks)
        · have hv := (if_neg c26_3).symm.trans hv
          have e0 : (sX2_wordOf T p1).toInt ≠ 0 := sw_ne c26_0
          have e1 : (sX2_wordOf T p1).toInt ≠ 1 := sw_ne c26_1
          have e2 : (sX2_wordOf T p1).toInt ≠ 2 := sw_ne c26_2
          have e3 : (sX2_wordOf T p1).toInt ≠ 3 := sw_ne c26_3
          refine lv_tableOut (tgt := 95) hx hb dX7_doOrder_26 (by omega) (by decide) ?_
          refine lv_aload_n hx hb dX7_doOrder_95 rfl (lv_at hl 2 rfl) ?_
          refine va_get (D := D) (ci := 7) (v := .ref (A 0 0)) (C := RX7) (T := TX7) (N := 5) hx hb hts iw_X7 hown hK hT.1 0 rfl rfl 1 (by decide) (hts _ w_fl_X7_19) (fun _ h9 => h9) rfl dX7_doOrder_96 ?_
          refine lv_iload_n hx hb dX7_doOrder_99 rfl (lv_at hl 1 rfl) ?_
          refine w_i (sX1_passDays (Os 0) (sX2_firstOf T p1)) (va_runV (As := [.int (sX2_firstOf T p1)]) (rest := []) ⟨hx, hb, hml, hown, hts⟩ (c_X1_passDays l D cs (A 0) (Os 0) (sX2_firstOf T p1) (hd.o (k := 0) (by decide))) (cwV 1 hts (good_V w_ml_X7_192 w_im_X1_passDays w_se_X1_passDays w_in_X1 w_co_X1_passDays) rfl rfl rfl ⟨rfl, hd_X1_passDays⟩ ⟨Nat.le_of_ble_eq_true rfl, Nat.le_of_ble_eq_true rfl⟩) (pe_W (C := RX1) (T := TX1) (N := 6) (ci := 1) (q0 := 0) (hT.2 0 (by decide)) hE rfl rfl) rfl rfl hl.1 rfl (lv_room (Nat.le_of_ble_eq_true rfl)) dX7_doOrder_100 ⟨Nat.le_of_ble_eq_true rfl, Nat.le_of_ble_eq_true rfl⟩) hS (fun _ _ h => Or.inr ⟨0, by decide, h⟩) (fun _ h => Or.inr ⟨0, by decide, h⟩) (fun t locs hB hz hk hS => ?_)
          have hT : tsP D cs z A (va_up Os 0 ((sX1_passDays (Os 0) (sX2_firstOf T p1)).2)) T t.heap := t_of hd hT (by decide) hk hB
          exact W.iret (v := (sX1_passDays (Os 0) (sX2_firstOf T p1)).1) hx hb hr (fun t ht hW => ⟨⟨(sX1_passDays (Os 0) (sX2_firstOf T p1)).1, ((va_up Os 0 ((sX1_passDays (Os 0) (sX2_firstOf T p1)).2)), T), rfl, pair_eq hv, tw ht hT⟩, hS.F ht⟩) hS.2.2 dX7_doOrder_103 (hlocks := hlocks)
theorem hd_X7_load : yX7_load.cls ≠ "java/lang/invoke/MethodHandle" ∧ yX7_load.cls ≠ "java/lang/invoke/VarHandle" ∧ (parseMethodDescriptor yX7_load.desc).map (fun d => d.parameters.length) = some 0 := by decide +kernel
def LX7_load_46 (Os : Nat → OF) (T : OF) : Nat → Int32 → Int32 → (Nat → OF) → OF → Nat × Int32 × TSt
  | 0 => fun _ _ _ _ => (0, 0, (Os, T))
  | n + 1 => fun x1 x2 Os9 T9 => (if (sX2_orderCount T9) ≤ x2 then (0, x1, (Os9, T9)) else (if 0 ≤ ((sX7_doOrder Os9 T9 x2).1) then (LX7_load_46 Os T n x1 (x2 + 1) ((sX7_doOrder Os9 T9 x2).2.1) ((sX7_doOrder Os9 T9 x2).2.2)) else (LX7_load_46 Os T n (x1 + 1) (x2 + 1) ((sX7_doOrder Os9 T9 x2).2.1) ((sX7_doOrder Os9 T9 x2).2.2))))
theorem LX7_load_46_eq (Os : Nat → OF) (T : OF) (n : Nat) (x1 : Int32) (x2 : Int32) (Os9 : (Nat → OF)) (T9 : OF) : LX7_load_46 Os T (n + 1) x1 x2 Os9 T9 = (if (sX2_orderCount T9) ≤ x2 then (0, x1, (Os9, T9)) else (if 0 ≤ ((sX7_doOrder Os9 T9 x2).1) then (LX7_load_46 Os T n x1 (x2 + 1) ((sX7_doOrder Os9 T9 x2).2.1) ((sX7_doOrder Os9 T9 x2).2.2)) else (LX7_load_46 Os T n (x1 + 1) (x2 + 1) ((sX7_doOrder Os9 T9 x2).2.1) ((sX7_doOrder Os9 T9 x2).2.2)))) := rfl
def sX7_load (Os : Nat → OF) (T : OF) : Nat × Int32 × TSt := (if ((sX2_readOrders T).1) = (-1) then (LX7_load_46 Os T (upM ((sX5_clear (sX0_clear ((sX2_readOrders T).2))).1 2) 0 + 1) 0 0 (va_up Os 0 (sX1_clear (Os 0))) (sX5_clear (sX0_clear ((sX2_readOrders T).2)))) else (2, 0, (Os, ((sX2_readOrders T).2))))
set_option maxHeartbeats 4000000 in
set_option maxRecDepth 100000 in
theorem c_X7_load (l : Launch) (D : va_G) (cs : Nat → ClassId) (z : Nat → Nat) (A : Nat → Nat → Nat) (adK adV : Nat → Nat) (Os : Nat → OF) (T : OF) (hd : tD z A) (hlst : l.stackTraces = false) : vx_Met l yX7_load (wc yX7_load cX7_load 3 (some .int)) ({ frames := 8, cells := 1, slots := 6, locals := 173 } : Room) (va_Pc [.ref (z 0)] (TE D cs z A adK adV Os T)) (xwQ D cs z A (sX7_load Os T)) (xwX D cs z A (sX7_load Os T)) 1 6 (tA z A) := by
  obtain ⟨v, hv⟩ : ∃ v, sX7_load Os T = v := ⟨_, rfl⟩
  rw [hv]
  refine met_x (lv := [(0, .ref (z 0))]) (by decide) (Nat.le_of_ble_eq_true rfl) rfl ?_
  intro p e s m args below meth c ls hx hb hr hml hts hown hlocks hout hB0 hl
  obtain ⟨⟨hT, hE⟩, hXE⟩ := hB0
  have hown : s.vm.findClass RX7 = some m.cls := hown
  have hK := hE.1
  have hS : va_S (tA z A) s.heap s.heap [] := va_S.rf
  unfold sX7_load at hv
  refine lv_aload_n hx hb dX7_load_0 rfl (lv_at hl 0 rfl) ?_
  refine va_get (D := D) (ci := 7) (v := .ref (z 1)) (C := RX7) (T := TX7) (N := 5) hx hb hts iw_X7 hown hK hT.1 0 rfl rfl 0 (by decide) (hts _ w_fl_X7_12) (fun _ h9 => h9) rfl dX7_load_1 ?_
  refine w_i (sX2_readOrders T) (va_runV (As := []) (rest := []) ⟨hx, hb, hml, hown, hts⟩ (c_X2_readOrders l D cs z A T adK adV hd) (cwV 0 hts (good_V w_ml_X7_64 w_im_X2_readOrders w_se_X2_readOrders w_in_X2 w_co_X2_readOrders) rfl rfl rfl ⟨rfl, hd_X2_readOrders⟩ ⟨Nat.le_of_ble_eq_true rfl, Nat.le_of_ble_eq_true rfl⟩) (zsx_V (C := RX2) (T9 := TX2) (N := 7) (ci := 2) (q0 := 1) hT.1 hE hXE hS rfl rfl) rfl rfl hl.1 rfl (lv_room (Nat.le_of_ble_eq_true rfl)) dX7_load_4 ⟨Nat.le_of_ble_eq_true rfl, Nat.le_of_ble_eq_true rfl⟩) hS (fun _ _ h => Or.inl h) (fun _ h => Or.inl h) (fun t locs hB hz hk hS => ?_)
  have hT : tsP D cs z A Os ((sX2_readOrders T).2) t.heap := t_z hd hT hk hB
  refine lv_iconst (v := (-1)) hx hb dX7_load_7 (by decide) ?_
  refine lv_icmp_eq (tgt := 21) hx hb dX7_load_8 (by decide) (fun c8 => ?_) (fun c8 => ?_)
  · have hv := (if_pos c8).symm.trans hv
    refine lv_aload_n hx hb dX7_load_21 rfl (lv_at hl 0 rfl) ?_
    refine va_get (D := D) (ci := 7) (v := .ref (A 0 0)) (C := RX7) (T := TX7) (N := 5) hx hb hts iw_X7 hown hK hT.1 0 rfl rfl 1 (by decide) (hts _ w_fl_X7_19) (fun _ h9 => h9) rfl dX7_load_22 ?_
    refine w_v (sX1_clear (Os 0)) (va_runV (As := []) (rest := []) ⟨hx, hb, hml, hown, hts⟩ (c_X1_clear l D cs (A 0) (Os 0) (hd.o (k := 0) (by decide))) (cwV 0 hts (good_V w_ml_X7_69 w_im_X1_clear w_se_X1_clear w_in_X1 w_co_X1_clear) rfl rfl rfl ⟨rfl, hd_X1_clear⟩ ⟨Nat.le_of_ble_eq_true rfl, Nat.le_of_ble_eq_true rfl⟩) (pe_W (C := RX1) (T := TX1) (N := 6) (ci := 1) (q0 := 0) (hT.2 0 (by decide)) hE rfl rfl) rfl rfl hl.1 rfl (lv_room (Nat.le_of_ble_eq_true rfl)) dX7_load_25 ⟨Nat.le_of_ble_eq_true rfl, Nat.le_of_ble_eq_true rfl⟩) hS (fun _ _ h => Or.inr ⟨0, by decide, h⟩) (fun _ h => Or.inr ⟨0, by decide, h⟩) (fun t locs hB hz hk hS => ?_)
    have hT : tsP D cs z A (va_up Os 0 (sX1_clear (Os 0))) ((sX2_readOrders T).2) t.heap := t_of hd hT (by decide) hk hB
    refine lv_aload_n hx hb dX7_load_28 rfl (lv_at hl 0 rfl) ?_
    refine va_get (D := D) (ci := 7) (v := .ref (z 6)) (C := RX7) (T := TX7) (N := 5) hx hb hts iw_X7 hown hK hT.1 0 rfl rfl 3 (by decide) (hts _ w_fl_X7_29) (fun _ h9 => h9) rfl dX7_load_29 ?_
    refine w_v (sX0_clear ((sX2_readOrders T).2)) (va_runV (As := []) (rest := []) ⟨hx, hb, hml, hown, hts⟩ (c_X0_clear l D cs z A ((sX2_readOrders T).2) hd) (cwV 0 hts (good_V w_ml_X7_72 w_im_X0_clear w_se_X0_clear w_in_X0 w_co_X0_clear) rfl rfl rfl ⟨rfl, hd_X0_clear⟩ ⟨Nat.le_of_ble_eq_true rfl, Nat.le_of_ble_eq_true rfl⟩) (pe_W (C := RX0) (T := TX0) (N := 3) (ci := 0) (q0 := 6) hT.1 hE rfl rfl) rfl rfl hl.1 rfl (lv_room (Nat.le_of_ble_eq_true rfl)) dX7_load_32 ⟨Nat.le_of_ble_eq_true rfl, Nat.le_of_ble_eq_true rfl⟩) hS (fun _ _ h => Or.inl h) (fun _ h => Or.inl h) (fun t locs hB hz hk hS => ?_)
    have hT : tsP D cs z A (va_up Os 0 (sX1_clear (Os 0))) (sX0_clear ((sX2_readOrders T).2)) t.heap := t_z hd hT hk hB
    refine lv_aload_n hx hb dX7_load_35 rfl (lv_at hl 0 rfl) ?_
    refine va_get (D := D) (ci := 7) (v := .ref (z 8)) (C := RX7) (T := TX7) (N := 5) hx hb hts iw_X7 hown hK hT.1 0 rfl rfl 4 (by decide) (hts _ w_fl_X7_36) (fun _ h9 => h9) rfl dX7_load_36 ?_
    refine w_v (sX5_clear (sX0_clear ((sX2_readOrders T).2))) (va_runV (As := []) (rest := []) ⟨hx, hb, hml, hown, hts⟩ (c_X5_clear l D cs z A (sX0_clear ((sX2_readOrders T).2)) hd) (cwV 0 hts (good_V w_ml_X7_73 w_im_X5_clear w_se_X5_clear w_in_X5 w_co_X5_clear) rfl rfl rfl ⟨rfl, hd_X5_clear⟩ ⟨Nat.le_of_ble_eq_true rfl, Nat.le_of_ble_eq_true rfl⟩) (pe_W (C := RX5) (T := TX5) (N := 2) (ci := 5) (q0 := 8) hT.1 hE rfl rfl) rfl rfl hl.1 rfl (lv_room (Nat.le_of_ble_eq_true rfl)) dX7_load_39 ⟨Nat.le_of_ble_eq_true rfl, Nat.le_of_ble_eq_true rfl⟩) hS (fun _ _ h => Or.inl h) (fun _ h => Or.inl h) (fun t locs hB hz hk hS => ?_)
    have hT : tsP D cs z A (va_up Os 0 (sX1_clear (Os 0))) (sX5_clear (sX0_clear ((sX2_readOrders T).2))) t.heap := t_z hd hT hk hB
    refine lv_iconst (v := 0) hx hb dX7_load_42 (by decide) ?_
    refine lv_istore_n (lv' := [(1, .int 0), (0, .ref (z 0))]) hx hb dX7_load_43 rfl hl (by decide) rfl (fun ls hl => ?_)
    refine lv_iconst (v := 0) hx hb dX7_load_44 (by decide) ?_
    refine lv_istore_n (lv' := [(2, .int 0), (1, .int 0), (0, .ref (z 0))]) hx hb dX7_load_45 rfl hl (by decide) rfl (fun ls hl => ?_)
    have LOOP : ∀ (n : Nat) (x1 : Int32) (x2 : Int32) (Os9 : (Nat → OF)) (T9 : OF), upM (T9.1 2) x2 < n → LX7_load_46 Os T n x1 x2 Os9 T9 = v → ∀ (H : Heap) (locs : List Loc), tsP D cs z A Os9 T9 H → va_S (tA z A) s.heap H locs → ∀ ls : Array Slot, lv_has ls 3 [(0, .ref (z 0)), (1, .int x1), (2, .int x2)] → W p l e ({ frames := 8, cells := 1, slots := 6, locals := 173 } : Room) s m args below meth c H locs 0 0 (vx_MQ below (xwQ D cs z A v) (xwX D cs z A v) args s 1 6 (tA z A)) (F0 m 46 ls []) := by
      clear hv hT
      intro n
      induction n with
      | zero => intro x1 x2 Os9 T9 hm; exact absurd hm (Nat.not_lt_zero _)
      | succ n ih =>
        intro x1 x2 Os9 T9 hm hv H locs hT hS ls hl
        have hv := (LX7_load_46_eq Os T n x1 x2 Os9 T9).symm.trans hv
        refine lv_iload_n hx hb dX7_load_46 rfl (lv_at hl 2 rfl) ?_
        refine lv_aload_n hx hb dX7_load_47 rfl (lv_at hl 0 rfl) ?_
        refine va_get (D := D) (ci := 7) (v := .ref (z 1)) (C := RX7) (T := TX7) (N := 5) hx hb hts iw_X7 hown hK hT.1 0 rfl rfl 0 (by decide) (hts _ w_fl_X7_12) (fun _ h9 => h9) rfl dX7_load_48 ?_
        refine ro_i (sX2_orderCount T9) (run_c (va_runV (As := []) (rest := [.int x2]) ⟨hx, hb, hml, hown, hts⟩ (c_X2_orderCount l D cs z A T9) (cwV 0 hts (good_V w_ml_X7_74 w_im_X2_orderCount w_se_X2_orderCount w_in_X2 w_co_X2_orderCount) rfl rfl rfl ⟨rfl, hd_X2_orderCount⟩ ⟨Nat.le_of_ble_eq_true rfl, Nat.le_of_ble_eq_true rfl⟩) (pe_W (C := RX2) (T := TX2) (N := 7) (ci := 2) (q0 := 1) hT.1 hE rfl rfl) rfl rfl hl.1 rfl (lv_room (Nat.le_of_ble_eq_true rfl)) dX7_load_51 ⟨Nat.le_of_ble_eq_true rfl, Nat.le_of_ble_eq_true rfl⟩)) ?_
        refine lv_icmp_ge (tgt := 74) hx hb dX7_load_54 (by decide) (fun c54 => ?_) (fun c54 => ?_)
        · have hv := (if_pos c54).symm.trans hv
          refine lv_iload_n hx hb dX7_load_74 rfl (lv_at hl 1 rfl) ?_
          refine W.widen (k := 1) (n := 6) (Nat.le_of_ble_eq_true rfl) (Nat.le_of_ble_eq_true rfl) ?_
          refine vx_ret ?_
          exact W.iret (v := x1) hx hb hr (fun t ht hW => ⟨⟨x1, (Os9, T9), rfl, xw_eq hv, tw ht hT⟩, hS.F ht⟩) hS.2.2 dX7_load_75 (hlocks := hlocks)
        · have hv := (if_neg c54).symm.trans hv
          refine lv_aload_n hx hb dX7_load_57 rfl (lv_at hl 0 rfl) ?_
          refine lv_iload_n hx hb dX7_load_58 rfl (lv_at hl 2 rfl) ?_
          refine w_i (sX7_doOrder Os9 T9 x2) (va_runV (As := [.int x2]) (rest := []) ⟨hx, hb, hml, hown, hts⟩ (c_X7_doOrder l D cs z A adK adV Os9 T9 x2 hd) (cwV 1 hts (good_V w_ml_X7_77 w_im_X7_doOrder w_se_X7_doOrder w_in_X7 w_co_X7_doOrder) rfl rfl rfl ⟨rfl, hd_X7_doOrder⟩ ⟨Nat.le_of_ble_eq_true rfl, Nat.le_of_ble_eq_true rfl⟩) (te_V (C := RX7) (T9 := TX7) (N := 5) (ci := 7) (q0 := 0) hT hE hXE hS rfl rfl) rfl rfl hl.1 rfl (lv_room (Nat.le_of_ble_eq_true rfl)) dX7_load_59 ⟨Nat.le_of_ble_eq_true rfl, Nat.le_of_ble_eq_true rfl⟩) hS (fun _ _ h => h) (fun _ h => h) (fun t locs hB hz hk hS => ?_)
          have hT : tsP D cs z A ((sX7_doOrder Os9 T9 x2).2.1) ((sX7_doOrder Os9 T9 x2).2.2) t.heap := hB
          refine lv_if_ge (tgt := 68) hx hb dX7_load_62 (by decide) (fun c62 => ?_) (fun c62 => ?_)
          · have hv := (if_pos c62).symm.trans hv
            refine lv_iinc (v := x2 + 1) (lv' := [(2, .int (x2 + 1)), (0, .ref (z 0)), (1, .int x1)]) hx hb dX7_load_68 hl (k := 2) rfl rfl (by decide) rfl (fun ls hl => ?_)
            refine lv_goto (tgt := 46) hx hb dX7_load_71 (by decide) ?_
            exact ih x1 (x2 + 1) ((sX7_doOrder Os9 T9 x2).2.1) ((sX7_doOrder Os9 T9 x2).2.2) (by rw [doOrder_T]; exact upM_s c54 hm) hv _ _ hT hS ls (lv_sub hl [1, 2, 0] rfl)
          · have hv := (if_neg c62).symm.trans hv
            refine lv_iinc (v := x1 + 1) (lv' := [(1, .int (x1 + 1)), (0, .ref (z 0)), (2, .int x2)]) hx hb dX7_load_65 hl (k := 1) rfl rfl (by decide) rfl (fun ls hl => ?_)
            refine lv_iinc (v := x2 + 1) (lv' := [(2, .int (x2 + 1)), (1, .int (x1 + 1)), (0, .ref (z 0))]) hx hb dX7_load_68 hl (k := 2) rfl rfl (by decide) rfl (fun ls hl => ?_)
            refine lv_goto (tgt := 46) hx hb dX7_load_71 (by decide) ?_
            exact ih (x1 + 1) (x2 + 1) ((sX7_doOrder Os9 T9 x2).2.1) ((sX7_doOrder Os9 T9 x2).2.2) (by rw [doOrder_T]; exact upM_s c54 hm) hv _ _ hT hS ls (lv_sub hl [2, 1, 0] rfl)
    exact LOOP _ 0 0 (va_up Os 0 (sX1_clear (Os 0))) (sX5_clear (sX0_clear ((sX2_readOrders T).2))) (Nat.lt_succ_self _) hv _ _ hT hS ls (lv_sub hl [2, 1, 0] rfl)
  · have hv := (if_neg c8).symm.trans hv
    obtain ⟨sa, hsa⟩ := hXE.2.2.2.2 (67, "the text is not an office") (List.mem_of_getElem? (i := 2) rfl)
    exact thr_2 hx hb hlst hown hts hXE hsa hS (by rw [hml]; exact hl.1) dX7_load_11 dX7_load_14 dX7_load_15 dX7_load_17 dX7_load_20 hout (Nat.le_of_ble_eq_true rfl) (Nat.le_of_ble_eq_true rfl) (Nat.le_of_ble_eq_true rfl) (Nat.le_of_ble_eq_true rfl) hlocks (xc_w (k := 2) (by decide) hv hT hS) hS.2.2 (Nat.le_of_ble_eq_true rfl) (Nat.le_of_ble_eq_true rfl)
theorem hd_X7_save : yX7_save.cls ≠ "java/lang/invoke/MethodHandle" ∧ yX7_save.cls ≠ "java/lang/invoke/VarHandle" ∧ (parseMethodDescriptor yX7_save.desc).map (fun d => d.parameters.length) = some 1 := by decide +kernel
def sX7_save (Os : Nat → OF) (T : OF) (p1 : Int32) : Nat × Int32 × TSt := (if (sX7_isSlot p1) = true then (0, ((((sX5_keep Os T p1).1) 0).1 5), (((sX5_keep Os T p1).1), ((sX5_keep Os T p1).2))) else (3, 0, (Os, T)))
set_option maxHeartbeats 4000000 in
set_option maxRecDepth 100000 in
theorem c_X7_save (l : Launch) (D : va_G) (cs : Nat → ClassId) (z : Nat → Nat) (A : Nat → Nat → Nat) (adK adV : Nat → Nat) (Os : Nat → OF) (T : OF) (p1 : Int32) (hd : tD z A) (hlst : l.stackTraces = false) : vx_Met l yX7_save (wc yX7_save cX7_save 2 (some .int)) ({ frames := 6, cells := 1, slots := 6, locals := 133 } : Room) (va_Pc [.ref (z 0), .int p1] (TE D cs z A adK adV Os T)) (xwQ D cs z A (sX7_save Os T p1)) (xwX D cs z A (sX7_save Os T p1)) 1 6 (tA z A) := by
  obtain ⟨v, hv⟩ : ∃ v, sX7_save Os T p1 = v := ⟨_, rfl⟩
  rw [hv]
  refine met_x (lv := [(0, .ref (z 0)), (1, .int p1)]) (by decide) (Nat.le_of_ble_eq_true rfl) rfl ?_
  intro p e s m args below meth c ls hx hb hr hml hts hown hlocks hout hB0 hl
  obtain ⟨⟨hT, hE⟩, hXE⟩ := hB0
  have hown : s.vm.findClass RX7 = some m.cls := hown
  have hK := hE.1
  have hS : va_S (tA z A) s.heap s.heap [] := va_S.rf
  unfold sX7_save at hv
  refine lv_iload_n hx hb dX7_save_0 rfl (lv_at hl 1 rfl) ?_
  refine ro_i (b2i (sX7_isSlot p1)) (run_c (va_runS (As := [.int p1]) (rest := []) ⟨hx, hb, hml, hown, hts⟩ (c_X7_isSlot l D cs p1) (cwS 1 hts (good_S w_ml_X7_292 w_st_X7_isSlot w_in_X7 w_co_X7_isSlot) rfl rfl rfl ⟨rfl, hd_X7_isSlot⟩ ⟨Nat.le_of_ble_eq_true rfl, Nat.le_of_ble_eq_true rfl⟩) (pe_S (p_nil D _) hE) rfl rfl hl.1 rfl (lv_room (Nat.le_of_ble_eq_true rfl)) dX7_save_1 ⟨Nat.le_of_ble_eq_true rfl, Nat.le_of_ble_eq_true rfl⟩)) ?_
  refine lv_if_ne (tgt := 18) hx hb dX7_save_4 (by decide) (fun c4 => ?_) (fun c4 => ?_)
  · have c4 := b2i_t c4
    have hv := (if_pos c4).symm.trans hv
    refine lv_aload_n hx hb dX7_save_18 rfl (lv_at hl 0 rfl) ?_
    refine va_get (D := D) (ci := 7) (v := .ref (z 8)) (C := RX7) (T := TX7) (N := 5) hx hb hts iw_X7 hown hK hT.1 0 rfl rfl 4 (by decide) (hts _ w_fl_X7_36) (fun _ h9 => h9) rfl dX7_save_19 ?_
    refine lv_iload_n hx hb dX7_save_22 rfl (lv_at hl 1 rfl) ?_
    refine lv_aload_n hx hb dX7_save_23 rfl (lv_at hl 0 rfl) ?_
    refine va_get (D := D) (ci := 7) (v := .ref (A 0 0)) (C := RX7) (T := TX7) (N := 5) hx hb hts iw_X7 hown hK hT.1 0 rfl rfl 1 (by decide) (hts _ w_fl_X7_19) (fun _ h9 => h9) rfl dX7_save_24 ?_
    refine w_v (sX5_keep Os T p1) (va_runV (As := [.int p1, .ref (A 0 0)]) (rest := []) ⟨hx, hb, hml, hown, hts⟩ (c_X5_keep l D cs z A adK adV Os T p1 hd (in_X7_isSlot (by assumption))) (cwV 2 hts (good_V w_ml_X7_297 w_im_X5_keep w_se_X5_keep w_in_X5 w_co_X5_keep) rfl rfl rfl ⟨rfl, hd_X5_keep⟩ ⟨Nat.le_of_ble_eq_true rfl, Nat.le_of_ble_eq_true rfl⟩) (te_V (C := RX5) (T9 := TX5) (N := 2) (ci := 5) (q0 := 8) hT hE hXE hS rfl rfl) rfl rfl hl.1 rfl (lv_room (Nat.le_of_ble_eq_true rfl)) dX7_save_27 ⟨Nat.le_of_ble_eq_true rfl, Nat.le_of_ble_eq_true rfl⟩) hS (fun _ _ h => h) (fun _ h => h) (fun t locs hB hz hk hS => ?_)
    have hT : tsP D cs z A ((sX5_keep Os T p1).1) ((sX5_keep Os T p1).2) t.heap := hB
    refine lv_aload_n hx hb dX7_save_30 rfl (lv_at hl 0 rfl) ?_
    refine va_get (D := D) (ci := 7) (v := .ref (A 0 0)) (C := RX7) (T := TX7) (N := 5) hx hb hts iw_X7 hown hK hT.1 0 rfl rfl 1 (by decide) (hts _ w_fl_X7_19) (fun _ h9 => h9) rfl dX7_save_31 ?_
    refine va_getN (D := D) (ci := 1) (v := .int ((((sX5_keep Os T p1).1) 0).1 5)) (C := RX1) (T := TX1) (N := 6) hx hb hts iw_X1 hown hK (hT.2 0 (by decide)) 0 rfl rfl 4 (by decide) (va_Nw.use rfl (hE.2.2 (301, "today", "I") (List.mem_of_getElem? (i := 4) rfl))) (fun _ h9 => h9) rfl dX7_save_34 ?_
    refine W.widen (k := 1) (n := 6) (Nat.le_of_ble_eq_true rfl) (Nat.le_of_ble_eq_true rfl) ?_
    refine vx_ret ?_
    exact W.iret (v := ((((sX5_keep Os T p1).1) 0).1 5)) hx hb hr (fun t ht hW => ⟨⟨((((sX5_keep Os T p1).1) 0).1 5), (((sX5_keep Os T p1).1), ((sX5_keep Os T p1).2)), rfl, xw_eq hv, tw ht hT⟩, hS.F ht⟩) hS.2.2 dX7_save_37 (hlocks := hlocks)
  · have c4 := b2i_f c4
    have hv := (if_neg c4).symm.trans hv
    obtain ⟨sa, hsa⟩ := hXE.2.2.2.2 (295, "no such save slot") (List.mem_of_getElem? (i := 21) rfl)
    exact thr_3w hx hb hlst hown hts hXE hsa hS (by rw [hml]; exact hl.1) dX7_save_7 dX7_save_10 dX7_save_11 dX7_save_14 dX7_save_17 hout (Nat.le_of_ble_eq_true rfl) (Nat.le_of_ble_eq_true rfl) (Nat.le_of_ble_eq_true rfl) (Nat.le_of_ble_eq_true rfl) hlocks (xc_w (k := 3) (by decide) hv hT hS) hS.2.2 (Nat.le_of_ble_eq_true rfl) (Nat.le_of_ble_eq_true rfl)
theorem hd_X7_restore : yX7_restore.cls ≠ "java/lang/invoke/MethodHandle" ∧ yX7_restore.cls ≠ "java/lang/invoke/VarHandle" ∧ (parseMethodDescriptor yX7_restore.desc).map (fun d => d.parameters.length) = some 1 := by decide +kernel
def sX7_restore (Os : Nat → OF) (T : OF) (p1 : Int32) : Nat × Int32 × TSt := (if (sX7_isSlot p1) = true then (if (sX5_holds T p1) = true then (0, ((((sX5_copyInto Os T p1).1) 0).1 5), (((sX5_copyInto Os T p1).1), (sX0_clear ((sX5_copyInto Os T p1).2)))) else (2, 0, (Os, T))) else (3, 0, (Os, T)))
set_option maxHeartbeats 4000000 in
set_option maxRecDepth 100000 in
theorem c_X7_restore (l : Launch) (D : va_G) (cs : Nat → ClassId) (z : Nat → Nat) (A : Nat → Nat → Nat) (adK adV : Nat → Nat) (Os : Nat → OF) (T : OF) (p1 : Int32) (hd : tD z A) (hlst : l.stackTraces = false) : vx_Met l yX7_restore (wc yX7_restore cX7_restore 2 (some .int)) ({ frames := 6, cells := 1, slots := 6, locals := 133 } : Room) (va_Pc [.ref (z 0), .int p1] (TE D cs z A adK adV Os T)) (xwQ D cs z A (sX7_restore Os T p1)) (xwX D cs z A (sX7_restore Os T p1)) 1 6 (tA z A) := by
  obtain ⟨v, hv⟩ : ∃ v, sX7_restore Os T p1 = v := ⟨_, rfl⟩
  rw [hv]
  refine met_x (lv := [(0, .ref (z 0)), (1, .int p1)]) (by decide) (Nat.le_of_ble_eq_true rfl) rfl ?_
  intro p e s m args below meth c ls hx hb hr hml hts hown hlocks hout hB0 hl
  obtain ⟨⟨hT, hE⟩, hXE⟩ := hB0
  have hown : s.vm.findClass RX7 = some m.cls := hown
  have hK := hE.1
  have hS : va_S (tA z A) s.heap s.heap [] := va_S.rf
  unfold sX7_restore at hv
  refine lv_iload_n hx hb dX7_restore_0 rfl (lv_at hl 1 rfl) ?_
  refine ro_i (b2i (sX7_isSlot p1)) (run_c (va_runS (As := [.int p1]) (rest := []) ⟨hx, hb, hml, hown, hts⟩ (c_X7_isSlot l D cs p1) (cwS 1 hts (good_S w_ml_X7_292 w_st_X7_isSlot w_in_X7 w_co_X7_isSlot) rfl rfl rfl ⟨rfl, hd_X7_isSlot⟩ ⟨Nat.le_of_ble_eq_true rfl, Nat.le_of_ble_eq_true rfl⟩) (pe_S (p_nil D _) hE) rfl rfl hl.1 rfl (lv_room (Nat.le_of_ble_eq_true rfl)) dX7_restore_1 ⟨Nat.le_of_ble_eq_true rfl, Nat.le_of_ble_eq_true rfl⟩)) ?_
  refine lv_if_ne (tgt := 18) hx hb dX7_restore_4 (by decide) (fun c4 => ?_) (fun c4 => ?_)
  · have c4 := b2i_t c4
    have hv := (if_pos c4).symm.trans hv
    refine lv_aload_n hx hb dX7_restore_18 rfl (lv_at hl 0 rfl) ?_
    refine va_get (D := D) (ci := 7) (v := .ref (z 8)) (C := RX7) (T := TX7) (N := 5) hx hb hts iw_X7 hown hK hT.1 0 rfl rfl 4 (by decide) (hts _ w_fl_X7_36) (fun _ h9 => h9) rfl dX7_restore_19 ?_
    refine lv_iload_n hx hb dX7_restore_22 rfl (lv_at hl 1 rfl) ?_
    refine ro_i (b2i (sX5_holds T p1)) (run_c (va_runV (As := [.int p1]) (rest := []) ⟨hx, hb, hml, hown, hts⟩ (c_X5_holds l D cs z A T p1) (cwV 1 hts (good_V w_ml_X7_304 w_im_X5_holds w_se_X5_holds w_in_X5 w_co_X5_holds) rfl rfl rfl ⟨rfl, hd_X5_holds⟩ ⟨Nat.le_of_ble_eq_true rfl, Nat.le_of_ble_eq_true rfl⟩) (pe_W (C := RX5) (T := TX5) (N := 2) (ci := 5) (q0 := 8) hT.1 hE rfl rfl) rfl rfl hl.1 rfl (lv_room (Nat.le_of_ble_eq_true rfl)) dX7_restore_23 ⟨Nat.le_of_ble_eq_true rfl, Nat.le_of_ble_eq_true rfl⟩)) ?_
    refine lv_if_ne (tgt := 40) hx hb dX7_restore_26 (by decide) (fun c26 => ?_) (fun c26 => ?_)
    · have c26 := b2i_t c26
      have hv := (if_pos c26).symm.trans hv
      refine lv_aload_n hx hb dX7_restore_40 rfl (lv_at hl 0 rfl) ?_
      refine va_get (D := D) (ci := 7) (v := .ref (z 8)) (C := RX7) (T := TX7) (N := 5) hx hb hts iw_X7 hown hK hT.1 0 rfl rfl 4 (by decide) (hts _ w_fl_X7_36) (fun _ h9 => h9) rfl dX7_restore_41 ?_
      refine lv_iload_n hx hb dX7_restore_44 rfl (lv_at hl 1 rfl) ?_
      refine lv_aload_n hx hb dX7_restore_45 rfl (lv_at hl 0 rfl) ?_
      refine va_get (D := D) (ci := 7) (v := .ref (A 0 0)) (C := RX7) (T := TX7) (N := 5) hx hb hts iw_X7 hown hK hT.1 0 rfl rfl 1 (by decide) (hts _ w_fl_X7_19) (fun _ h9 => h9) rfl dX7_restore_46 ?_
      refine w_v (sX5_copyInto Os T p1) (va_runV (As := [.int p1, .ref (A 0 0)]) (rest := []) ⟨hx, hb, hml, hown, hts⟩ (c_X5_copyInto l D cs z A adK adV Os T p1 hd (in_X7_isSlot (by assumption))) (cwV 2 hts (good_V w_ml_X7_309 w_im_X5_copyInto w_se_X5_copyInto w_in_X5 w_co_X5_copyInto) rfl rfl rfl ⟨rfl, hd_X5_copyInto⟩ ⟨Nat.le_of_ble_eq_true rfl, Nat.le_of_ble_eq_true rfl⟩) (te_V (C := RX5) (T9 := TX5) (N := 2) (ci := 5) (q0 := 8) hT hE hXE hS rfl rfl) rfl rfl hl.1 rfl (lv_room (Nat.le_of_ble_eq_true rfl)) dX7_restore_49 ⟨Nat.le_of_ble_eq_true rfl, Nat.le_of_ble_eq_true rfl⟩) hS (fun _ _ h => h) (fun _ h => h) (fun t locs hB hz hk hS => ?_)
      have hT : tsP D cs z A ((sX5_copyInto Os T p1).1) ((sX5_copyInto Os T p1).2) t.heap := hB
      refine lv_aload_n hx hb dX7_restore_52 rfl (lv_at hl 0 rfl) ?_
      refine va_get (D := D) (ci := 7) (v := .ref (z 6)) (C := RX7) (T := TX7) (N := 5) hx hb hts iw_X7 hown hK hT.1 0 rfl rfl 3 (by decide) (hts _ w_fl_X7_29) (fun _ h9 => h9) rfl dX7_restore_53 ?_
      refine w_v (sX0_clear ((sX5_copyInto Os T p1).2)) (va_runV (As := []) (rest := []) ⟨hx, hb, hml, hown, hts⟩ (c_X0_clear l D cs z A ((sX5_copyInto Os T p1).2) hd) (cwV 0 hts (good_V w_ml_X7_72 w_im_X0_clear w_se_X0_clear w_in_X0 w_co_X0_clear) rfl rfl rfl ⟨rfl, hd_X0_clear⟩ ⟨Nat.le_of_ble_eq_true rfl, Nat.le_of_ble_eq_true rfl⟩) (pe_W (C := RX0) (T := TX0) (N := 3) (ci := 0) (q0 := 6) hT.1 hE rfl rfl) rfl rfl hl.1 rfl (lv_room (Nat.le_of_ble_eq_true rfl)) dX7_restore_56 ⟨Nat.le_of_ble_eq_true rfl, Nat.le_of_ble_eq_true rfl⟩) hS (fun _ _ h => Or.inl h) (fun _ h => Or.inl h) (fun t locs hB hz hk hS => ?_)
      have hT : tsP D cs z A ((sX5_copyInto Os T p1).1) (sX0_clear ((sX5_copyInto Os T p1).2)) t.heap := t_z hd hT hk hB
      refine lv_aload_n hx hb dX7_restore_59 rfl (lv_at hl 0 rfl) ?_
      refine va_get (D := D) (ci := 7) (v := .ref (A 0 0)) (C := RX7) (T := TX7) (N := 5) hx hb hts iw_X7 hown hK hT.1 0 rfl rfl 1 (by decide) (hts _ w_fl_X7_19) (fun _ h9 => h9) rfl dX7_restore_60 ?_
      refine va_getN (D := D) (ci := 1) (v := .int ((((sX5_copyInto Os T p1).1) 0).1 5)) (C := RX1) (T := TX1) (N := 6) hx hb hts iw_X1 hown hK (hT.2 0 (by decide)) 0 rfl rfl 4 (by decide) (va_Nw.use rfl (hE.2.2 (301, "today", "I") (List.mem_of_getElem? (i := 4) rfl))) (fun _ h9 => h9) rfl dX7_restore_63 ?_
      refine W.widen (k := 1) (n := 6) (Nat.le_of_ble_eq_true rfl) (Nat.le_of_ble_eq_true rfl) ?_
      refine vx_ret ?_
      exact W.iret (v := ((((sX5_copyInto Os T p1).1) 0).1 5)) hx hb hr (fun t ht hW => ⟨⟨((((sX5_copyInto Os T p1).1) 0).1 5), (((sX5_copyInto Os T p1).1), (sX0_clear ((sX5_copyInto Os T p1).2))), rfl, xw_eq hv, tw ht hT⟩, hS.F ht⟩) hS.2.2 dX7_restore_66 (hlocks := hlocks)
    · have c26 := b2i_f c26
      have hv := (if_neg c26).symm.trans hv
      obtain ⟨sa, hsa⟩ := hXE.2.2.2.2 (307, "nothing has been saved in this slot") (List.mem_of_getElem? (i := 22) rfl)
      exact thr_2w hx hb hlst hown hts hXE hsa hS (by rw [hml]; exact hl.1) dX7_restore_29 dX7_restore_32 dX7_restore_33 dX7_restore_36 dX7_restore_39 hout (Nat.le_of_ble_eq_true rfl) (Nat.le_of_ble_eq_true rfl) (Nat.le_of_ble_eq_true rfl) (Nat.le_of_ble_eq_true rfl) hlocks (xc_w (k := 2) (by decide) hv hT hS) hS.2.2 (Nat.le_of_ble_eq_true rfl) (Nat.le_of_ble_eq_true rfl)
  · have c4 := b2i_f c4
    have hv := (if_neg c4).symm.trans hv
    obtain ⟨sa, hsa⟩ := hXE.2.2.2.2 (295, "no such save slot") (List.mem_of_getElem? (i := 21) rfl)
    exact thr_3w hx hb hlst hown hts hXE hsa hS (by rw [hml]; exact hl.1) dX7_restore_7 dX7_restore_10 dX7_restore_11 dX7_restore_14 dX7_restore_17 hout (Nat.le_of_ble_eq_true rfl) (Nat.le_of_ble_eq_true rfl) (Nat.le_of_ble_eq_true rfl) (Nat.le_of_ble_eq_true rfl) hlocks (xc_w (k := 3) (by decide) hv hT hS) hS.2.2 (Nat.le_of_ble_eq_true rfl) (Nat.le_of_ble_eq_true rfl)
