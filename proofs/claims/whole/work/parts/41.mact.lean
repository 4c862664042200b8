theorem hd_X8_goMend : yX8_goMend.cls ≠ "java/lang/invoke/MethodHandle" ∧ yX8_goMend.cls ≠ "java/lang/invoke/VarHandle" ∧ (parseMethodDescriptor yX8_goMend.desc).map (fun d => d.parameters.length) = some 2 := by decide +kernel
def sX8_goMend (r : Nat → Int32) (p1 : Int32) : Int32 × (Nat → Int32) := (sX8_wrong (upd r (384 + p1).toNatClampNeg (r (20 + (r (324 + p1).toNatClampNeg)).toNatClampNeg)), (upd r (384 + p1).toNatClampNeg (r (20 + (r (324 + p1).toNatClampNeg)).toNatClampNeg)))
set_option maxHeartbeats 4000000 in
set_option maxRecDepth 100000 in
theorem c_X8_goMend (l : Launch) (D : va_G) (cs : Nat → ClassId) (q : Nat) (r : Nat → Int32) (p1 : Int32) (hv0 : MV r) (h1 : inW r p1) : Met l yX8_goMend (wc yX8_goMend cX8_goMend 2 (some .int)) ({ frames := 2, cells := 0, slots := 0, locals := 43 } : Room) (va_Pc [.ref q, .int p1] (PE D cs (rowW cs q r))) (va_Qi (fun (r9 : Int32) (u : (Nat → Int32)) => r9 = (sX8_goMend r p1).1 ∧ u = (sX8_goMend r p1).2) (fun u t => va_P D vwC (rowW cs q u) t.heap) (rA q)) 0 0 (rA q) := by
  obtain ⟨v, hv⟩ : ∃ v, sX8_goMend r p1 = v := ⟨_, rfl⟩
  rw [hv]
  refine met_o (lv := [(0, .ref q), (1, .int p1)]) (by decide) (Nat.le_of_ble_eq_true rfl) rfl ?_
  intro p e s m args below meth c ls hx hb hr hml hts hown hlocks hin hP hE hl
  have hown : s.vm.findClass RX8 = some m.cls := hown
  have hK := hE.1
  have hP : va_P D vwC (rowW cs q r) s.heap := hP
  have hS : va_S (rA q) s.heap s.heap [] := va_S.rf
  unfold sX8_goMend at hv
  have f1 := h1.v hv0
  have f2 := (hv0.ws h1).v hv0
  refine lv_aload_n hx hb dX8_goMend_0 rfl (lv_at hl 0 rfl) ?_
  refine lv_sipush (v := 384) hx hb dX8_goMend_1 (by decide) ?_
  refine lv_iload_n hx hb dX8_goMend_4 rfl (lv_at hl 1 rfl) ?_
  refine lv_iadd hx hb dX8_goMend_5 ?_
  refine lv_aload_n hx hb dX8_goMend_6 rfl (lv_at hl 0 rfl) ?_
  refine lv_bipush (v := 20) hx hb dX8_goMend_7 (by decide) ?_
  refine lv_aload_n hx hb dX8_goMend_9 rfl (lv_at hl 0 rfl) ?_
  refine lv_sipush (v := 324) hx hb dX8_goMend_10 (by decide) ?_
  refine lv_iload_n hx hb dX8_goMend_13 rfl (lv_at hl 1 rfl) ?_
  refine lv_iadd hx hb dX8_goMend_14 ?_
  refine va_iald (cA := cs 0) (n := 414) (f := r) hx hb hK hP 0 0 rfl rfl (vp_off (K := 324) rfl (by assumption) (by decide) (by decide)) dX8_goMend_15 ?_
  refine lv_iadd hx hb dX8_goMend_16 ?_
  refine va_iald (cA := cs 0) (n := 414) (f := r) hx hb hK hP 0 0 rfl rfl (vp_off (K := 20) rfl (by assumption) (by decide) (by decide)) dX8_goMend_17 ?_
  refine va_iast (cA := cs 0) (n := 414) (f := r) hx hb hK hP (row_D cs q r) hS 0 0 rfl rfl (vp_off (K := 384) rfl (by assumption) (by decide) (by decide)) dX8_goMend_18 (fun H locs hP _ hS => ?_)
  have hP : va_P D vwC (rowW cs q (upd r (384 + p1).toNatClampNeg (r (20 + (r (324 + p1).toNatClampNeg)).toNatClampNeg))) H := hP
  refine lv_aload_n hx hb dX8_goMend_19 rfl (lv_at hl 0 rfl) ?_
  refine ro_i (sX8_wrong (upd r (384 + p1).toNatClampNeg (r (20 + (r (324 + p1).toNatClampNeg)).toNatClampNeg))) (run_c (va_runS (As := [.ref q]) (rest := []) ⟨hx, hb, hml, hown, hts⟩ (c_X8_wrong l D cs q (upd r (384 + p1).toNatClampNeg (r (20 + (r (324 + p1).toNatClampNeg)).toNatClampNeg)) (MV_of hv0 (sm_up (sm_rfl r) (nx_384 f1)))) (cwS 1 hts (good_S w_ml_X8_90 w_st_X8_wrong w_in_X8 w_co_X8_wrong) rfl rfl rfl ⟨rfl, hd_X8_wrong⟩ ⟨Nat.le_of_ble_eq_true rfl, Nat.le_of_ble_eq_true rfl⟩) (pe_S hP hE) rfl rfl hl.1 rfl (lv_room (Nat.le_of_ble_eq_true rfl)) dX8_goMend_20 ⟨Nat.zero_le _, Nat.zero_le _⟩)) ?_
  exact W.iret (v := sX8_wrong (upd r (384 + p1).toNatClampNeg (r (20 + (r (324 + p1).toNatClampNeg)).toNatClampNeg))) hx hb hr (fun t ht hW => ⟨⟨sX8_wrong (upd r (384 + p1).toNatClampNeg (r (20 + (r (324 + p1).toNatClampNeg)).toNatClampNeg)), (upd r (384 + p1).toNatClampNeg (r (20 + (r (324 + p1).toNatClampNeg)).toNatClampNeg)), rfl, pair_eq hv, pw ht hP⟩, hS.F ht⟩) hS.2.2 dX8_goMend_23 (hlocks := hlocks)
theorem MV_mend {r : Nat → Int32} {p : Int32} (h : MV r) (h1 : vp_in p 30) : MV (sX8_goMend r p).2 := MV_of h (sm_up (sm_rfl r) (nx_384 h1))
theorem hd_X8_coming : yX8_coming.cls ≠ "java/lang/invoke/MethodHandle" ∧ yX8_coming.cls ≠ "java/lang/invoke/VarHandle" ∧ (parseMethodDescriptor yX8_coming.desc).map (fun d => d.parameters.length) = some 1 := by decide +kernel
def sX8_coming (M : MS) (p1 : Int32) : Int32 × MS := (if (refB (b2i (if (sX8_in p1.toInt64 (1 : Int64) (30 : Int64)) = true then false else true))) = true then (0, (msS M 0 (b2i (if (sX8_in p1.toInt64 (1 : Int64) (30 : Int64)) = true then false else true)))) else (((sX8_goRun ((sX8_copy (M.1.2 2) (M.1.2 1))) p1)).1, (msA (msA (msS M 0 (b2i (if (sX8_in p1.toInt64 (1 : Int64) (30 : Int64)) = true then false else true))) 2 ((sX8_copy (M.1.2 2) (M.1.2 1)))) 2 (((sX8_goRun ((sX8_copy (M.1.2 2) (M.1.2 1))) p1)).2))))
set_option maxHeartbeats 4000000 in
set_option maxRecDepth 100000 in
theorem c_X8_coming (l : Launch) (D : va_G) (cs : Nat → ClassId) (w : Nat → Nat) (M : MS) (p1 : Int32) (hd : mD w) (hv0 : MV (M.1.2 1)) : Met l yX8_coming (wc yX8_coming cX8_coming 2 (some .int)) ({ frames := 5, cells := 0, slots := 0, locals := 110 } : Room) (va_Pc [.ref (w 0), .int p1] (PE D cs (mW cs w M))) (va_Qi (fun (r9 : Int32) (u : MS) => r9 = (sX8_coming M p1).1 ∧ u = (sX8_coming M p1).2) (fun u t => va_P D vwC (mW cs w u) t.heap) (mA w)) 0 0 (mA w) := by
  obtain ⟨v, hv⟩ : ∃ v, sX8_coming M p1 = v := ⟨_, rfl⟩
  rw [hv]
  refine met_o (lv := [(0, .ref (w 0)), (1, .int p1)]) (by decide) (Nat.le_of_ble_eq_true rfl) rfl ?_
  intro p e s m args below meth c ls hx hb hr hml hts hown hlocks hin hP hE hl
  have hown : s.vm.findClass RX8 = some m.cls := hown
  have hK := hE.1
  have hP : va_P D vwC (mW cs w M) s.heap := hP
  have hS : va_S (mA w) s.heap s.heap [] := va_S.rf
  unfold sX8_coming at hv
  refine lv_aload_n hx hb dX8_coming_0 rfl (lv_at hl 0 rfl) ?_
  refine lv_iload_n hx hb dX8_coming_1 rfl (lv_at hl 1 rfl) ?_
  refine lv_i2l hx hb dX8_coming_2 rfl ?_
  refine lv_lconst (v := 1) hx hb dX8_coming_3 (by decide) ?_
  refine lv_ldc2 (v := 30) hx hb hown (hts _ w_cn_X8_275) dX8_coming_4 ?_
  refine ro_i (b2i (sX8_in p1.toInt64 (1 : Int64) (30 : Int64))) (run_c (va_runS (As := [.long p1.toInt64, .long (1 : Int64), .long (30 : Int64)]) (rest := [.ref (w 0)]) ⟨hx, hb, hml, hown, hts⟩ (c_X8_in l D cs p1.toInt64 (1 : Int64) (30 : Int64)) (cwS 3 hts (good_S w_ml_X8_42 w_st_X8_in w_in_X8 w_co_X8_in) rfl rfl rfl ⟨rfl, hd_X8_in⟩ ⟨Nat.le_of_ble_eq_true rfl, Nat.le_of_ble_eq_true rfl⟩) (pe_S (p_nil D _) hE) rfl rfl hl.1 rfl (lv_room (Nat.le_of_ble_eq_true rfl)) dX8_coming_7 ⟨Nat.zero_le _, Nat.zero_le _⟩)) ?_
  refine join_i (J := 18) (ls := ls) (rest := [.ref (w 0)]) (b2i (if (sX8_in p1.toInt64 (1 : Int64) (30 : Int64)) = true then false else true)) ?_ (fun hJ => ?_)
  · refine w_b (refB (b2i (if (sX8_in p1.toInt64 (1 : Int64) (30 : Int64)) = true then false else true)), (msS M 0 (b2i (if (sX8_in p1.toInt64 (1 : Int64) (30 : Int64)) = true then false else true)))) (va_runV (As := [.int (b2i (if (sX8_in p1.toInt64 (1 : Int64) (30 : Int64)) = true then false else true))]) (rest := []) ⟨hx, hb, hml, hown, hts⟩ (c_X8_refused l D cs w M (b2i (if (sX8_in p1.toInt64 (1 : Int64) (30 : Int64)) = true then false else true)) hd) (cwV 1 hts (good_V w_ml_X8_105 w_im_X8_refused w_se_X8_refused w_in_X8 w_co_X8_refused) rfl rfl rfl ⟨rfl, hd_X8_refused⟩ ⟨Nat.le_of_ble_eq_true rfl, Nat.le_of_ble_eq_true rfl⟩) (pe_W (C := RX8) (T := TX8) (N := 14) (ci := 8) (q0 := 0) hP hE rfl rfl) rfl rfl hl.1 rfl (lv_room (Nat.le_of_ble_eq_true rfl)) dX8_coming_18 ⟨Nat.zero_le _, Nat.zero_le _⟩) hS (fun _ _ h => h) (fun _ h => h) (fun t locs hB hz hk hS => ?_)
    have hP : va_P D vwC (mW cs w (msS M 0 (b2i (if (sX8_in p1.toInt64 (1 : Int64) (30 : Int64)) = true then false else true)))) t.heap := hB
    refine lv_if_eq (tgt := 26) hx hb dX8_coming_21 (by decide) (fun c21 => ?_) (fun c21 => ?_)
    · have c21 := b2i_f c21
      have hv := (if_neg c21).symm.trans hv
      refine lv_aload_n hx hb dX8_coming_26 rfl (lv_at hl 0 rfl) ?_
      refine va_get (D := D) (ci := 8) (v := .ref (w 1)) (C := RX8) (T := TX8) (N := 14) hx hb hts iw_X8 hown hK hP 0 rfl rfl 1 (by decide) (hts _ w_fl_X8_7) (fun _ h9 => h9) rfl dX8_coming_27 ?_
      refine lv_aload_n hx hb dX8_coming_30 rfl (lv_at hl 0 rfl) ?_
      refine va_get (D := D) (ci := 8) (v := .ref (w 2)) (C := RX8) (T := TX8) (N := 14) hx hb hts iw_X8 hown hK hP 0 rfl rfl 2 (by decide) (hts _ w_fl_X8_13) (fun _ h9 => h9) rfl dX8_coming_31 ?_
      obtain ⟨G34, hG34⟩ : ∃ G, sX8_copy (M.1.2 2) (M.1.2 1) = G := ⟨_, rfl⟩
      have k34 := (c_X8_copy l D cs (w 2) (w 1) (M.1.2 2) (M.1.2 1) (fun e9 => absurd (hd 2 1 (by decide) (by decide) e9) (by decide)))
      rw [hG34] at k34
      rw [hG34] at hv
      refine w_v (G34) (va_runS (As := [.ref (w 1), .ref (w 2)]) (rest := []) ⟨hx, hb, hml, hown, hts⟩ k34 (cwS 2 hts (good_S w_ml_X8_208 w_st_X8_copy w_in_X8 w_co_X8_copy) rfl rfl rfl ⟨rfl, hd_X8_copy⟩ ⟨Nat.le_of_ble_eq_true rfl, Nat.le_of_ble_eq_true rfl⟩) (pe_S (hP.sub (ws' := rowW cs (w 2) (M.1.2 2) ++ rowW cs (w 1) (M.1.2 1)) [2, 1] rfl) hE) rfl rfl hl.1 rfl (lv_room (Nat.le_of_ble_eq_true rfl)) dX8_coming_34 ⟨Nat.zero_le _, Nat.zero_le _⟩) hS (fun _ _ h => h.elim (fun h => ⟨2, by decide, h⟩) (fun h => ⟨1, by decide, h⟩)) (fun _ h => h.elim (fun h => ⟨2, by decide, h⟩) (fun h => ⟨1, by decide, h⟩)) (fun t locs hB hz hk hS => ?_)
      have hP : va_P D vwC (mW cs w (msA (msS M 0 (b2i (if (sX8_in p1.toInt64 (1 : Int64) (30 : Int64)) = true then false else true))) 2 (G34))) t.heap := m_cp21 hd hP hk hB
      have g34 : (G34 1).toInt ≤ 24 := by rw [← hG34]; exact cp_le hv0
      refine lv_aload_n hx hb dX8_coming_37 rfl (lv_at hl 0 rfl) ?_
      refine va_get (D := D) (ci := 8) (v := .ref (w 2)) (C := RX8) (T := TX8) (N := 14) hx hb hts iw_X8 hown hK hP 0 rfl rfl 2 (by decide) (hts _ w_fl_X8_13) (fun _ h9 => h9) rfl dX8_coming_38 ?_
      refine lv_iload_n hx hb dX8_coming_41 rfl (lv_at hl 1 rfl) ?_
      obtain ⟨G42, hG42⟩ : ∃ G, sX8_goRun (G34) p1 = G := ⟨_, rfl⟩
      have k42 := (c_X8_goRun l D cs (w 2) (G34) p1 g34)
      rw [hG42] at k42
      rw [hG42] at hv
      refine w_i (G42) (va_runS (As := [.ref (w 2), .int p1]) (rest := []) ⟨hx, hb, hml, hown, hts⟩ k42 (cwS 2 hts (good_S w_ml_X8_169 w_st_X8_goRun w_in_X8 w_co_X8_goRun) rfl rfl rfl ⟨rfl, hd_X8_goRun⟩ ⟨Nat.le_of_ble_eq_true rfl, Nat.le_of_ble_eq_true rfl⟩) (pe_S (hP.sub (ws' := rowW cs (w 2) (G34)) [2] rfl) hE) rfl rfl hl.1 rfl (lv_room (Nat.le_of_ble_eq_true rfl)) dX8_coming_42 ⟨Nat.zero_le _, Nat.zero_le _⟩) hS (fun _ _ h => ⟨2, by decide, h⟩) (fun _ h => ⟨2, by decide, h⟩) (fun t locs hB hz hk hS => ?_)
      have hP : va_P D vwC (mW cs w (msA (msA (msS M 0 (b2i (if (sX8_in p1.toInt64 (1 : Int64) (30 : Int64)) = true then false else true))) 2 (G34)) 2 ((G42).2))) t.heap := m_up2 hd hP hk hB
      exact W.iret (v := (G42).1) hx hb hr (fun t ht hW => ⟨⟨(G42).1, (msA (msA (msS M 0 (b2i (if (sX8_in p1.toInt64 (1 : Int64) (30 : Int64)) = true then false else true))) 2 (G34)) 2 ((G42).2)), rfl, pair_eq hv, pw ht hP⟩, hS.F ht⟩) hS.2.2 dX8_coming_45 (hlocks := hlocks)
    · have c21 := b2i_t c21
      have hv := (if_pos c21).symm.trans hv
      refine lv_iconst (v := 0) hx hb dX8_coming_24 (by decide) ?_
      exact W.iret (v := 0) hx hb hr (fun t ht hW => ⟨⟨0, (msS M 0 (b2i (if (sX8_in p1.toInt64 (1 : Int64) (30 : Int64)) = true then false else true))), rfl, pair_eq hv, pw ht hP⟩, hS.F ht⟩) hS.2.2 dX8_coming_25 (hlocks := hlocks)
  · refine lv_if_eq (tgt := 17) hx hb dX8_coming_10 (by decide) (fun c10 => ?_) (fun c10 => ?_)
    · have c10 := b2i_f c10
      refine lv_iconst (v := 1) hx hb dX8_coming_17 (by decide) ?_
      exact hJ _ (congrArg b2i ((if_neg c10).trans rfl))
    · have c10 := b2i_t c10
      refine lv_iconst (v := 0) hx hb dX8_coming_13 (by decide) ?_
      refine lv_goto (tgt := 18) hx hb dX8_coming_14 (by decide) ?_
      exact hJ _ (congrArg b2i ((if_pos c10).trans rfl))
theorem hd_X8_draw : yX8_draw.cls ≠ "java/lang/invoke/MethodHandle" ∧ yX8_draw.cls ≠ "java/lang/invoke/VarHandle" ∧ (parseMethodDescriptor yX8_draw.desc).map (fun d => d.parameters.length) = some 1 := by decide +kernel
def sX8_draw (M : MS) (p1 : Int32) : Int32 × MS := (if (refB (if p1 = (-1) then (if (sX8_canDraw (M.1.2 1)) = true then (0 : Int32) else (2 : Int32)) else (if (sX8_hasSheet (M.1.2 1) p1) = true then (if (sX8_canDraw (M.1.2 1)) = true then (0 : Int32) else (2 : Int32)) else (1 : Int32)))) = true then (0, (msS M 0 (if p1 = (-1) then (if (sX8_canDraw (M.1.2 1)) = true then (0 : Int32) else (2 : Int32)) else (if (sX8_hasSheet (M.1.2 1) p1) = true then (if (sX8_canDraw (M.1.2 1)) = true then (0 : Int32) else (2 : Int32)) else (1 : Int32))))) else (((sX8_goDraw (((sX8_remember (msS M 0 (if p1 = (-1) then (if (sX8_canDraw (M.1.2 1)) = true then (0 : Int32) else (2 : Int32)) else (if (sX8_hasSheet (M.1.2 1) p1) = true then (if (sX8_canDraw (M.1.2 1)) = true then (0 : Int32) else (2 : Int32)) else (1 : Int32)))))).1.2 1) p1)).1, (msA ((sX8_remember (msS M 0 (if p1 = (-1) then (if (sX8_canDraw (M.1.2 1)) = true then (0 : Int32) else (2 : Int32)) else (if (sX8_hasSheet (M.1.2 1) p1) = true then (if (sX8_canDraw (M.1.2 1)) = true then (0 : Int32) else (2 : Int32)) else (1 : Int32)))))) 1 (((sX8_goDraw (((sX8_remember (msS M 0 (if p1 = (-1) then (if (sX8_canDraw (M.1.2 1)) = true then (0 : Int32) else (2 : Int32)) else (if (sX8_hasSheet (M.1.2 1) p1) = true then (if (sX8_canDraw (M.1.2 1)) = true then (0 : Int32) else (2 : Int32)) else (1 : Int32)))))).1.2 1) p1)).2))))
set_option maxHeartbeats 4000000 in
set_option maxRecDepth 100000 in
theorem c_X8_draw (l : Launch) (D : va_G) (cs : Nat → ClassId) (w : Nat → Nat) (M : MS) (p1 : Int32) (hd : mD w) (hv0 : MV (M.1.2 1)) (h0 : vp_in (M.1.1 1) 15) : Met l yX8_draw (wc yX8_draw cX8_draw 2 (some .int)) ({ frames := 2, cells := 0, slots := 0, locals := 46 } : Room) (va_Pc [.ref (w 0), .int p1] (PE D cs (mW cs w M))) (va_Qi (fun (r9 : Int32) (u : MS) => r9 = (sX8_draw M p1).1 ∧ u = (sX8_draw M p1).2) (fun u t => va_P D vwC (mW cs w u) t.heap) (mA w)) 0 0 (mA w) := by
  obtain ⟨v, hv⟩ : ∃ v, sX8_draw M p1 = v := ⟨_, rfl⟩
  rw [hv]
  refine met_o (lv := [(0, .ref (w 0)), (1, .int p1)]) (by decide) (Nat.le_of_ble_eq_true rfl) rfl ?_
  intro p e s m args below meth c ls hx hb hr hml hts hown hlocks hin hP hE hl
  have hown : s.vm.findClass RX8 = some m.cls := hown
  have hK := hE.1
  have hP : va_P D vwC (mW cs w M) s.heap := hP
  have hS : va_S (mA w) s.heap s.heap [] := va_S.rf
  unfold sX8_draw at hv
  refine lv_aload_n hx hb dX8_draw_0 rfl (lv_at hl 0 rfl) ?_
  refine lv_iload_n hx hb dX8_draw_1 rfl (lv_at hl 1 rfl) ?_
  refine lv_iconst (v := (-1)) hx hb dX8_draw_2 (by decide) ?_
  refine join_i (J := 36) (ls := ls) (rest := [.ref (w 0)]) ((if p1 = (-1) then (if (sX8_canDraw (M.1.2 1)) = true then (0 : Int32) else (2 : Int32)) else (if (sX8_hasSheet (M.1.2 1) p1) = true then (if (sX8_canDraw (M.1.2 1)) = true then (0 : Int32) else (2 : Int32)) else (1 : Int32)))) ?_ (fun hJ => ?_)
  · refine w_b (refB (if p1 = (-1) then (if (sX8_canDraw (M.1.2 1)) = true then (0 : Int32) else (2 : Int32)) else (if (sX8_hasSheet (M.1.2 1) p1) = true then (if (sX8_canDraw (M.1.2 1)) = true then (0 : Int32) else (2 : Int32)) else (1 : Int32))), (msS M 0 (if p1 = (-1) then (if (sX8_canDraw (M.1.2 1)) = true then (0 : Int32) else (2 : Int32)) else (if (sX8_hasSheet (M.1.2 1) p1) = true then (if (sX8_canDraw (M.1.2 1)) = true then (0 : Int32) else (2 : Int32)) else (1 : Int32))))) (va_runV (As := [.int (if p1 = (-1) then (if (sX8_canDraw (M.1.2 1)) = true then (0 : Int32) else (2 : Int32)) else (if (sX8_hasSheet (M.1.2 1) p1) = true then (if (sX8_canDraw (M.1.2 1)) = true then (0 : Int32) else (2 : Int32)) else (1 : Int32)))]) (rest := []) ⟨hx, hb, hml, hown, hts⟩ (c_X8_refused l D cs w M (if p1 = (-1) then (if (sX8_canDraw (M.1.2 1)) = true then (0 : Int32) else (2 : Int32)) else (if (sX8_hasSheet (M.1.2 1) p1) = true then (if (sX8_canDraw (M.1.2 1)) = true then (0 : Int32) else (2 : Int32)) else (1 : Int32))) hd) (cwV 1 hts (good_V w_ml_X8_105 w_im_X8_refused w_se_X8_refused w_in_X8 w_co_X8_refused) rfl rfl rfl ⟨rfl, hd_X8_refused⟩ ⟨Nat.le_of_ble_eq_true rfl, Nat.le_of_ble_eq_true rfl⟩) (pe_W (C := RX8) (T := TX8) (N := 14) (ci := 8) (q0 := 0) hP hE rfl rfl) rfl rfl hl.1 rfl (lv_room (Nat.le_of_ble_eq_true rfl)) dX8_draw_36 ⟨Nat.zero_le _, Nat.zero_le _⟩) hS (fun _ _ h => h) (fun _ h => h) (fun t locs hB hz hk hS => ?_)
    have hP : va_P D vwC (mW cs w (msS M 0 (if p1 = (-1) then (if (sX8_canDraw (M.1.2 1)) = true then (0 : Int32) else (2 : Int32)) else (if (sX8_hasSheet (M.1.2 1) p1) = true then (if (sX8_canDraw (M.1.2 1)) = true then (0 : Int32) else (2 : Int32)) else (1 : Int32))))) t.heap := hB
    refine lv_if_eq (tgt := 44) hx hb dX8_draw_39 (by decide) (fun c39 => ?_) (fun c39 => ?_)
    · have c39 := b2i_f c39
      have hv := (if_neg c39).symm.trans hv
      have f1 := dr_f (rf0 c39)
      have f2 := cd_in hv0 f1
      refine lv_aload_n hx hb dX8_draw_44 rfl (lv_at hl 0 rfl) ?_
      obtain ⟨G45, hG45⟩ : ∃ G, sX8_remember (msS M 0 (if p1 = (-1) then (if (sX8_canDraw (M.1.2 1)) = true then (0 : Int32) else (2 : Int32)) else (if (sX8_hasSheet (M.1.2 1) p1) = true then (if (sX8_canDraw (M.1.2 1)) = true then (0 : Int32) else (2 : Int32)) else (1 : Int32)))) = G := ⟨_, rfl⟩
      have k45 := (c_X8_remember l D cs w (msS M 0 (if p1 = (-1) then (if (sX8_canDraw (M.1.2 1)) = true then (0 : Int32) else (2 : Int32)) else (if (sX8_hasSheet (M.1.2 1) p1) = true then (if (sX8_canDraw (M.1.2 1)) = true then (0 : Int32) else (2 : Int32)) else (1 : Int32)))) hd h0)
      rw [hG45] at k45
      rw [hG45] at hv
      refine w_v (G45) (va_runV (As := []) (rest := []) ⟨hx, hb, hml, hown, hts⟩ k45 (cwV 0 hts (good_V w_ml_X8_248 w_im_X8_remember w_se_X8_remember w_in_X8 w_co_X8_remember) rfl rfl rfl ⟨rfl, hd_X8_remember⟩ ⟨Nat.le_of_ble_eq_true rfl, Nat.le_of_ble_eq_true rfl⟩) (pe_W (C := RX8) (T := TX8) (N := 14) (ci := 8) (q0 := 0) hP hE rfl rfl) rfl rfl hl.1 rfl (lv_room (Nat.le_of_ble_eq_true rfl)) dX8_draw_45 ⟨Nat.zero_le _, Nat.zero_le _⟩) hS (fun _ _ h => h) (fun _ h => h) (fun t locs hB hz hk hS => ?_)
      have hP : va_P D vwC (mW cs w (G45)) t.heap := hB
      have g1 : G45.1.2 1 = M.1.2 1 := by rw [← hG45, rem_now]; rfl
      refine lv_aload_n hx hb dX8_draw_48 rfl (lv_at hl 0 rfl) ?_
      refine va_get (D := D) (ci := 8) (v := .ref (w 1)) (C := RX8) (T := TX8) (N := 14) hx hb hts iw_X8 hown hK hP 0 rfl rfl 1 (by decide) (hts _ w_fl_X8_7) (fun _ h9 => h9) rfl dX8_draw_49 ?_
      refine lv_iload_n hx hb dX8_draw_52 rfl (lv_at hl 1 rfl) ?_
      obtain ⟨G53, hG53⟩ : ∃ G, sX8_goDraw ((G45).1.2 1) p1 = G := ⟨_, rfl⟩
      have k53 := (c_X8_goDraw l D cs (w 1) ((G45).1.2 1) p1 (by rw [g1]; exact f2))
      rw [hG53] at k53
      rw [hG53] at hv
      refine w_i (G53) (va_runS (As := [.ref (w 1), .int p1]) (rest := []) ⟨hx, hb, hml, hown, hts⟩ k53 (cwS 2 hts (good_S w_ml_X8_150 w_st_X8_goDraw w_in_X8 w_co_X8_goDraw) rfl rfl rfl ⟨rfl, hd_X8_goDraw⟩ ⟨Nat.le_of_ble_eq_true rfl, Nat.le_of_ble_eq_true rfl⟩) (pe_S (hP.sub (ws' := rowW cs (w 1) ((G45).1.2 1)) [1] rfl) hE) rfl rfl hl.1 rfl (lv_room (Nat.le_of_ble_eq_true rfl)) dX8_draw_53 ⟨Nat.zero_le _, Nat.zero_le _⟩) hS (fun _ _ h => ⟨1, by decide, h⟩) (fun _ h => ⟨1, by decide, h⟩) (fun t locs hB hz hk hS => ?_)
      have hP : va_P D vwC (mW cs w (msA (G45) 1 ((G53).2))) t.heap := m_up1 hd hP hk hB
      exact W.iret (v := (G53).1) hx hb hr (fun t ht hW => ⟨⟨(G53).1, (msA (G45) 1 ((G53).2)), rfl, pair_eq hv, pw ht hP⟩, hS.F ht⟩) hS.2.2 dX8_draw_56 (hlocks := hlocks)
    · have c39 := b2i_t c39
      have hv := (if_pos c39).symm.trans hv
      refine lv_iconst (v := 0) hx hb dX8_draw_42 (by decide) ?_
      exact W.iret (v := 0) hx hb hr (fun t ht hW => ⟨⟨0, (msS M 0 (if p1 = (-1) then (if (sX8_canDraw (M.1.2 1)) = true then (0 : Int32) else (2 : Int32)) else (if (sX8_hasSheet (M.1.2 1) p1) = true then (if (sX8_canDraw (M.1.2 1)) = true then (0 : Int32) else (2 : Int32)) else (1 : Int32)))), rfl, pair_eq hv, pw ht hP⟩, hS.F ht⟩) hS.2.2 dX8_draw_43 (hlocks := hlocks)
  · refine lv_icmp_eq (tgt := 21) hx hb dX8_draw_3 (by decide) (fun c3 => ?_) (fun c3 => ?_)
    · refine lv_aload_n hx hb dX8_draw_21 rfl (lv_at hl 0 rfl) ?_
      refine va_get (D := D) (ci := 8) (v := .ref (w 1)) (C := RX8) (T := TX8) (N := 14) hx hb hts iw_X8 hown hK hP 0 rfl rfl 1 (by decide) (hts _ w_fl_X8_7) (fun _ h9 => h9) rfl dX8_draw_22 ?_
      refine ro_i (b2i (sX8_canDraw (M.1.2 1))) (run_c (va_runS (As := [.ref (w 1)]) (rest := [.ref (w 0)]) ⟨hx, hb, hml, hown, hts⟩ (c_X8_canDraw l D cs (w 1) (M.1.2 1)) (cwS 1 hts (good_S w_ml_X8_142 w_st_X8_canDraw w_in_X8 w_co_X8_canDraw) rfl rfl rfl ⟨rfl, hd_X8_canDraw⟩ ⟨Nat.le_of_ble_eq_true rfl, Nat.le_of_ble_eq_true rfl⟩) (pe_S (hP.sub (ws' := rowW cs (w 1) (M.1.2 1)) [1] rfl) hE) rfl rfl hl.1 rfl (lv_room (Nat.le_of_ble_eq_true rfl)) dX8_draw_25 ⟨Nat.zero_le _, Nat.zero_le _⟩)) ?_
      refine lv_if_ne (tgt := 35) hx hb dX8_draw_28 (by decide) (fun c28 => ?_) (fun c28 => ?_)
      · have c28 := b2i_t c28
        refine lv_iconst (v := 0) hx hb dX8_draw_35 (by decide) ?_
        exact hJ _ ((if_pos c3).trans ((if_pos c28).trans rfl))
      · have c28 := b2i_f c28
        refine lv_iconst (v := 2) hx hb dX8_draw_31 (by decide) ?_
        refine lv_goto (tgt := 36) hx hb dX8_draw_32 (by decide) ?_
        exact hJ _ ((if_pos c3).trans ((if_neg c28).trans rfl))
    · refine lv_aload_n hx hb dX8_draw_6 rfl (lv_at hl 0 rfl) ?_
      refine va_get (D := D) (ci := 8) (v := .ref (w 1)) (C := RX8) (T := TX8) (N := 14) hx hb hts iw_X8 hown hK hP 0 rfl rfl 1 (by decide) (hts _ w_fl_X8_7) (fun _ h9 => h9) rfl dX8_draw_7 ?_
      refine lv_iload_n hx hb dX8_draw_10 rfl (lv_at hl 1 rfl) ?_
      refine ro_i (b2i (sX8_hasSheet (M.1.2 1) p1)) (run_c (va_runS (As := [.ref (w 1), .int p1]) (rest := [.ref (w 0)]) ⟨hx, hb, hml, hown, hts⟩ (c_X8_hasSheet l D cs (w 1) (M.1.2 1) p1) (cwS 2 hts (good_S w_ml_X8_139 w_st_X8_hasSheet w_in_X8 w_co_X8_hasSheet) rfl rfl rfl ⟨rfl, hd_X8_hasSheet⟩ ⟨Nat.le_of_ble_eq_true rfl, Nat.le_of_ble_eq_true rfl⟩) (pe_S (hP.sub (ws' := rowW cs (w 1) (M.1.2 1)) [1] rfl) hE) rfl rfl hl.1 rfl (lv_room (Nat.le_of_ble_eq_true rfl)) dX8_draw_11 ⟨Nat.zero_le _, Nat.zero_le _⟩)) ?_
      refine lv_if_ne (tgt := 21) hx hb dX8_draw_14 (by decide) (fun c14 => ?_) (fun c14 => ?_)
      · have c14 := b2i_t c14
        refine lv_aload_n hx hb dX8_draw_21 rfl (lv_at hl 0 rfl) ?_
        refine va_get (D := D) (ci := 8) (v := .ref (w 1)) (C := RX8) (T := TX8) (N := 14) hx hb hts iw_X8 hown hK hP 0 rfl rfl 1 (by decide) (hts _ w_fl_X8_7) (fun _ h9 => h9) rfl dX8_draw_22 ?_
        refine ro_i (b2i (sX8_canDraw (M.1.2 1))) (run_c (va_runS (As := [.ref (w 1)]) (rest := [.ref (w 0)]) ⟨hx, hb, hml, hown, hts⟩ (c_X8_canDraw l D cs (w 1) (M.1.2 1)) (cwS 1 hts (good_S w_ml_X8_142 w_st_X8_canDraw w_in_X8 w_co_X8_canDraw) rfl rfl rfl ⟨rfl, hd_X8_canDraw⟩ ⟨Nat.le_of_ble_eq_true rfl, Nat.le_of_ble_eq_true rfl⟩) (pe_S (hP.sub (ws' := rowW cs (w 1) (M.1.2 1)) [1] rfl) hE) rfl rfl hl.1 rfl (lv_room (Nat.le_of_ble_eq_true rfl)) dX8_draw_25 ⟨Nat.zero_le _, Nat.zero_le _⟩)) ?_
        refine lv_if_ne (tgt := 35) hx hb dX8_draw_28 (by decide) (fun c28 => ?_) (fun c28 => ?_)
        · have c28 := b2i_t c28
          refine lv_iconst (v := 0) hx hb dX8_draw_35 (by decide) ?_
          exact hJ _ ((if_neg c3).trans ((if_pos c14).trans ((if_pos c28).trans rfl)))
        · have c28 := b2i_f c28
          refine lv_iconst (v := 2) hx hb dX8_draw_31 (by decide) ?_
          refine lv_goto (tgt := 36) hx hb dX8_draw_32 (by decide) ?_
          exact hJ _ ((if_neg c3).trans ((if_pos c14).trans ((if_neg c28).trans rfl)))
      · have c14 := b2i_f c14
        refine lv_iconst (v := 1) hx hb dX8_draw_17 (by decide) ?_
        refine lv_goto (tgt := 36) hx hb dX8_draw_18 (by decide) ?_
        exact hJ _ ((if_neg c3).trans ((if_neg c14).trans rfl))
theorem hd_X8_revise : yX8_revise.cls ≠ "java/lang/invoke/MethodHandle" ∧ yX8_revise.cls ≠ "java/lang/invoke/VarHandle" ∧ (parseMethodDescriptor yX8_revise.desc).map (fun d => d.parameters.length) = some 2 := by decide +kernel
def sX8_revise (M : MS) (p1 : Int32) (p2 : Int32) : Int32 × MS := (if (refB (if (sX8_hasSheet (M.1.2 1) p1) = true then (if (sX8_isCloud p2) = true then (if (sX8_canRevise (M.1.2 1) p1) = true then (0 : Int32) else (3 : Int32)) else (2 : Int32)) else (1 : Int32))) = true then (0, (msS M 0 (if (sX8_hasSheet (M.1.2 1) p1) = true then (if (sX8_isCloud p2) = true then (if (sX8_canRevise (M.1.2 1) p1) = true then (0 : Int32) else (3 : Int32)) else (2 : Int32)) else (1 : Int32)))) else (((sX8_goRevise (((sX8_remember (msS M 0 (if (sX8_hasSheet (M.1.2 1) p1) = true then (if (sX8_isCloud p2) = true then (if (sX8_canRevise (M.1.2 1) p1) = true then (0 : Int32) else (3 : Int32)) else (2 : Int32)) else (1 : Int32))))).1.2 1) p1 p2)).1, (msA ((sX8_remember (msS M 0 (if (sX8_hasSheet (M.1.2 1) p1) = true then (if (sX8_isCloud p2) = true then (if (sX8_canRevise (M.1.2 1) p1) = true then (0 : Int32) else (3 : Int32)) else (2 : Int32)) else (1 : Int32))))) 1 (((sX8_goRevise (((sX8_remember (msS M 0 (if (sX8_hasSheet (M.1.2 1) p1) = true then (if (sX8_isCloud p2) = true then (if (sX8_canRevise (M.1.2 1) p1) = true then (0 : Int32) else (3 : Int32)) else (2 : Int32)) else (1 : Int32))))).1.2 1) p1 p2)).2))))
set_option maxHeartbeats 4000000 in
set_option maxRecDepth 100000 in
theorem c_X8_revise (l : Launch) (D : va_G) (cs : Nat → ClassId) (w : Nat → Nat) (M : MS) (p1 : Int32) (p2 : Int32) (hd : mD w) (hv0 : MV (M.1.2 1)) (h0 : vp_in (M.1.1 1) 15) : Met l yX8_revise (wc yX8_revise cX8_revise 3 (some .int)) ({ frames := 3, cells := 0, slots := 0, locals := 66 } : Room) (va_Pc [.ref (w 0), .int p1, .int p2] (PE D cs (mW cs w M))) (va_Qi (fun (r9 : Int32) (u : MS) => r9 = (sX8_revise M p1 p2).1 ∧ u = (sX8_revise M p1 p2).2) (fun u t => va_P D vwC (mW cs w u) t.heap) (mA w)) 0 0 (mA w) := by
  obtain ⟨v, hv⟩ : ∃ v, sX8_revise M p1 p2 = v := ⟨_, rfl⟩
  rw [hv]
  refine met_o (lv := [(0, .ref (w 0)), (1, .int p1), (2, .int p2)]) (by decide) (Nat.le_of_ble_eq_true rfl) rfl ?_
  intro p e s m args below meth c ls hx hb hr hml hts hown hlocks hin hP hE hl
  have hown : s.vm.findClass RX8 = some m.cls := hown
  have hK := hE.1
  have hP : va_P D vwC (mW cs w M) s.heap := hP
  have hS : va_S (mA w) s.heap s.heap [] := va_S.rf
  unfold sX8_revise at hv
  refine lv_aload_n hx hb dX8_revise_0 rfl (lv_at hl 0 rfl) ?_
  refine lv_aload_n hx hb dX8_revise_1 rfl (lv_at hl 0 rfl) ?_
  refine va_get (D := D) (ci := 8) (v := .ref (w 1)) (C := RX8) (T := TX8) (N := 14) hx hb hts iw_X8 hown hK hP 0 rfl rfl 1 (by decide) (hts _ w_fl_X8_7) (fun _ h9 => h9) rfl dX8_revise_2 ?_
  refine lv_iload_n hx hb dX8_revise_5 rfl (lv_at hl 1 rfl) ?_
  refine ro_i (b2i (sX8_hasSheet (M.1.2 1) p1)) (run_c (va_runS (As := [.ref (w 1), .int p1]) (rest := [.ref (w 0)]) ⟨hx, hb, hml, hown, hts⟩ (c_X8_hasSheet l D cs (w 1) (M.1.2 1) p1) (cwS 2 hts (good_S w_ml_X8_139 w_st_X8_hasSheet w_in_X8 w_co_X8_hasSheet) rfl rfl rfl ⟨rfl, hd_X8_hasSheet⟩ ⟨Nat.le_of_ble_eq_true rfl, Nat.le_of_ble_eq_true rfl⟩) (pe_S (hP.sub (ws' := rowW cs (w 1) (M.1.2 1)) [1] rfl) hE) rfl rfl hl.1 rfl (lv_room (Nat.le_of_ble_eq_true rfl)) dX8_revise_6 ⟨Nat.zero_le _, Nat.zero_le _⟩)) ?_
  refine join_i (J := 43) (ls := ls) (rest := [.ref (w 0)]) ((if (sX8_hasSheet (M.1.2 1) p1) = true then (if (sX8_isCloud p2) = true then (if (sX8_canRevise (M.1.2 1) p1) = true then (0 : Int32) else (3 : Int32)) else (2 : Int32)) else (1 : Int32))) ?_ (fun hJ => ?_)
  · refine w_b (refB (if (sX8_hasSheet (M.1.2 1) p1) = true then (if (sX8_isCloud p2) = true then (if (sX8_canRevise (M.1.2 1) p1) = true then (0 : Int32) else (3 : Int32)) else (2 : Int32)) else (1 : Int32)), (msS M 0 (if (sX8_hasSheet (M.1.2 1) p1) = true then (if (sX8_isCloud p2) = true then (if (sX8_canRevise (M.1.2 1) p1) = true then (0 : Int32) else (3 : Int32)) else (2 : Int32)) else (1 : Int32)))) (va_runV (As := [.int (if (sX8_hasSheet (M.1.2 1) p1) = true then (if (sX8_isCloud p2) = true then (if (sX8_canRevise (M.1.2 1) p1) = true then (0 : Int32) else (3 : Int32)) else (2 : Int32)) else (1 : Int32))]) (rest := []) ⟨hx, hb, hml, hown, hts⟩ (c_X8_refused l D cs w M (if (sX8_hasSheet (M.1.2 1) p1) = true then (if (sX8_isCloud p2) = true then (if (sX8_canRevise (M.1.2 1) p1) = true then (0 : Int32) else (3 : Int32)) else (2 : Int32)) else (1 : Int32)) hd) (cwV 1 hts (good_V w_ml_X8_105 w_im_X8_refused w_se_X8_refused w_in_X8 w_co_X8_refused) rfl rfl rfl ⟨rfl, hd_X8_refused⟩ ⟨Nat.le_of_ble_eq_true rfl, Nat.le_of_ble_eq_true rfl⟩) (pe_W (C := RX8) (T := TX8) (N := 14) (ci := 8) (q0 := 0) hP hE rfl rfl) rfl rfl hl.1 rfl (lv_room (Nat.le_of_ble_eq_true rfl)) dX8_revise_43 ⟨Nat.zero_le _, Nat.zero_le _⟩) hS (fun _ _ h => h) (fun _ h => h) (fun t locs hB hz hk hS => ?_)
    have hP : va_P D vwC (mW cs w (msS M 0 (if (sX8_hasSheet (M.1.2 1) p1) = true then (if (sX8_isCloud p2) = true then (if (sX8_canRevise (M.1.2 1) p1) = true then (0 : Int32) else (3 : Int32)) else (2 : Int32)) else (1 : Int32)))) t.heap := hB
    refine lv_if_eq (tgt := 51) hx hb dX8_revise_46 (by decide) (fun c46 => ?_) (fun c46 => ?_)
    · have c46 := b2i_f c46
      have hv := (if_neg c46).symm.trans hv
      have f1 := ift (by decide) (rf0 c46)
      have f2 := hasS_t hv0.1.1 f1.1
      refine lv_aload_n hx hb dX8_revise_51 rfl (lv_at hl 0 rfl) ?_
      obtain ⟨G52, hG52⟩ : ∃ G, sX8_remember (msS M 0 (if (sX8_hasSheet (M.1.2 1) p1) = true then (if (sX8_isCloud p2) = true then (if (sX8_canRevise (M.1.2 1) p1) = true then (0 : Int32) else (3 : Int32)) else (2 : Int32)) else (1 : Int32))) = G := ⟨_, rfl⟩
      have k52 := (c_X8_remember l D cs w (msS M 0 (if (sX8_hasSheet (M.1.2 1) p1) = true then (if (sX8_isCloud p2) = true then (if (sX8_canRevise (M.1.2 1) p1) = true then (0 : Int32) else (3 : Int32)) else (2 : Int32)) else (1 : Int32))) hd h0)
      rw [hG52] at k52
      rw [hG52] at hv
      refine w_v (G52) (va_runV (As := []) (rest := []) ⟨hx, hb, hml, hown, hts⟩ k52 (cwV 0 hts (good_V w_ml_X8_248 w_im_X8_remember w_se_X8_remember w_in_X8 w_co_X8_remember) rfl rfl rfl ⟨rfl, hd_X8_remember⟩ ⟨Nat.le_of_ble_eq_true rfl, Nat.le_of_ble_eq_true rfl⟩) (pe_W (C := RX8) (T := TX8) (N := 14) (ci := 8) (q0 := 0) hP hE rfl rfl) rfl rfl hl.1 rfl (lv_room (Nat.le_of_ble_eq_true rfl)) dX8_revise_52 ⟨Nat.zero_le _, Nat.zero_le _⟩) hS (fun _ _ h => h) (fun _ h => h) (fun t locs hB hz hk hS => ?_)
      have hP : va_P D vwC (mW cs w (G52)) t.heap := hB
      have g1 : G52.1.2 1 = M.1.2 1 := by rw [← hG52, rem_now]; rfl
      refine lv_aload_n hx hb dX8_revise_55 rfl (lv_at hl 0 rfl) ?_
      refine va_get (D := D) (ci := 8) (v := .ref (w 1)) (C := RX8) (T := TX8) (N := 14) hx hb hts iw_X8 hown hK hP 0 rfl rfl 1 (by decide) (hts _ w_fl_X8_7) (fun _ h9 => h9) rfl dX8_revise_56 ?_
      refine lv_iload_n hx hb dX8_revise_59 rfl (lv_at hl 1 rfl) ?_
      refine lv_iload_n hx hb dX8_revise_60 rfl (lv_at hl 2 rfl) ?_
      obtain ⟨G61, hG61⟩ : ∃ G, sX8_goRevise ((G52).1.2 1) p1 p2 = G := ⟨_, rfl⟩
      have k61 := (c_X8_goRevise l D cs (w 1) ((G52).1.2 1) p1 p2 (by rw [g1]; exact hv0) (by rw [g1]; exact f2))
      rw [hG61] at k61
      rw [hG61] at hv
      refine w_i (G61) (va_runS (As := [.ref (w 1), .int p1, .int p2]) (rest := []) ⟨hx, hb, hml, hown, hts⟩ k61 (cwS 3 hts (good_S w_ml_X8_165 w_st_X8_goRevise w_in_X8 w_co_X8_goRevise) rfl rfl rfl ⟨rfl, hd_X8_goRevise⟩ ⟨Nat.le_of_ble_eq_true rfl, Nat.le_of_ble_eq_true rfl⟩) (pe_S (hP.sub (ws' := rowW cs (w 1) ((G52).1.2 1)) [1] rfl) hE) rfl rfl hl.1 rfl (lv_room (Nat.le_of_ble_eq_true rfl)) dX8_revise_61 ⟨Nat.zero_le _, Nat.zero_le _⟩) hS (fun _ _ h => ⟨1, by decide, h⟩) (fun _ h => ⟨1, by decide, h⟩) (fun t locs hB hz hk hS => ?_)
      have hP : va_P D vwC (mW cs w (msA (G52) 1 ((G61).2))) t.heap := m_up1 hd hP hk hB
      exact W.iret (v := (G61).1) hx hb hr (fun t ht hW => ⟨⟨(G61).1, (msA (G52) 1 ((G61).2)), rfl, pair_eq hv, pw ht hP⟩, hS.F ht⟩) hS.2.2 dX8_revise_64 (hlocks := hlocks)
    · have c46 := b2i_t c46
      have hv := (if_pos c46).symm.trans hv
      refine lv_iconst (v := 0) hx hb dX8_revise_49 (by decide) ?_
      exact W.iret (v := 0) hx hb hr (fun t ht hW => ⟨⟨0, (msS M 0 (if (sX8_hasSheet (M.1.2 1) p1) = true then (if (sX8_isCloud p2) = true then (if (sX8_canRevise (M.1.2 1) p1) = true then (0 : Int32) else (3 : Int32)) else (2 : Int32)) else (1 : Int32))), rfl, pair_eq hv, pw ht hP⟩, hS.F ht⟩) hS.2.2 dX8_revise_50 (hlocks := hlocks)
  · refine lv_if_ne (tgt := 16) hx hb dX8_revise_9 (by decide) (fun c9 => ?_) (fun c9 => ?_)
    · have c9 := b2i_t c9
      refine lv_iload_n hx hb dX8_revise_16 rfl (lv_at hl 2 rfl) ?_
      refine ro_i (b2i (sX8_isCloud p2)) (run_c (va_runS (As := [.int p2]) (rest := [.ref (w 0)]) ⟨hx, hb, hml, hown, hts⟩ (c_X8_isCloud l D cs p2) (cwS 1 hts (good_S w_ml_X8_251 w_st_X8_isCloud w_in_X8 w_co_X8_isCloud) rfl rfl rfl ⟨rfl, hd_X8_isCloud⟩ ⟨Nat.le_of_ble_eq_true rfl, Nat.le_of_ble_eq_true rfl⟩) (pe_S (p_nil D _) hE) rfl rfl hl.1 rfl (lv_room (Nat.le_of_ble_eq_true rfl)) dX8_revise_17 ⟨Nat.zero_le _, Nat.zero_le _⟩)) ?_
      refine lv_if_ne (tgt := 27) hx hb dX8_revise_20 (by decide) (fun c20 => ?_) (fun c20 => ?_)
      · have c20 := b2i_t c20
        refine lv_aload_n hx hb dX8_revise_27 rfl (lv_at hl 0 rfl) ?_
        refine va_get (D := D) (ci := 8) (v := .ref (w 1)) (C := RX8) (T := TX8) (N := 14) hx hb hts iw_X8 hown hK hP 0 rfl rfl 1 (by decide) (hts _ w_fl_X8_7) (fun _ h9 => h9) rfl dX8_revise_28 ?_
        refine lv_iload_n hx hb dX8_revise_31 rfl (lv_at hl 1 rfl) ?_
        refine ro_i (b2i (sX8_canRevise (M.1.2 1) p1)) (run_c (va_runS (As := [.ref (w 1), .int p1]) (rest := [.ref (w 0)]) ⟨hx, hb, hml, hown, hts⟩ (c_X8_canRevise l D cs (w 1) (M.1.2 1) p1 ((hasS_t hv0.1.1 c9).v hv0)) (cwS 2 hts (good_S w_ml_X8_162 w_st_X8_canRevise w_in_X8 w_co_X8_canRevise) rfl rfl rfl ⟨rfl, hd_X8_canRevise⟩ ⟨Nat.le_of_ble_eq_true rfl, Nat.le_of_ble_eq_true rfl⟩) (pe_S (hP.sub (ws' := rowW cs (w 1) (M.1.2 1)) [1] rfl) hE) rfl rfl hl.1 rfl (lv_room (Nat.le_of_ble_eq_true rfl)) dX8_revise_32 ⟨Nat.zero_le _, Nat.zero_le _⟩)) ?_
        refine lv_if_ne (tgt := 42) hx hb dX8_revise_35 (by decide) (fun c35 => ?_) (fun c35 => ?_)
        · have c35 := b2i_t c35
          refine lv_iconst (v := 0) hx hb dX8_revise_42 (by decide) ?_
          exact hJ _ ((if_pos c9).trans ((if_pos c20).trans ((if_pos c35).trans rfl)))
        · have c35 := b2i_f c35
          refine lv_iconst (v := 3) hx hb dX8_revise_38 (by decide) ?_
          refine lv_goto (tgt := 43) hx hb dX8_revise_39 (by decide) ?_
          exact hJ _ ((if_pos c9).trans ((if_pos c20).trans ((if_neg c35).trans rfl)))
      · have c20 := b2i_f c20
        refine lv_iconst (v := 2) hx hb dX8_revise_23 (by decide) ?_
        refine lv_goto (tgt := 43) hx hb dX8_revise_24 (by decide) ?_
        exact hJ _ ((if_pos c9).trans ((if_neg c20).trans rfl))
    · have c9 := b2i_f c9
      refine lv_iconst (v := 1) hx hb dX8_revise_12 (by decide) ?_
      refine lv_goto (tgt := 43) hx hb dX8_revise_13 (by decide) ?_
      exact hJ _ ((if_neg c9).trans rfl)
theorem hd_X8_check : yX8_check.cls ≠ "java/lang/invoke/MethodHandle" ∧ yX8_check.cls ≠ "java/lang/invoke/VarHandle" ∧ (parseMethodDescriptor yX8_check.desc).map (fun d => d.parameters.length) = some 1 := by decide +kernel
def sX8_check (M : MS) (p1 : Int32) : Int32 × MS := (if (refB (if (sX8_hasSheet (M.1.2 1) p1) = true then (if (sX8_has ((M.1.2 1) (8 : Int32).toNatClampNeg) p1) = true then (0 : Int32) else (2 : Int32)) else (1 : Int32))) = true then (0, (msS M 0 (if (sX8_hasSheet (M.1.2 1) p1) = true then (if (sX8_has ((M.1.2 1) (8 : Int32).toNatClampNeg) p1) = true then (0 : Int32) else (2 : Int32)) else (1 : Int32)))) else (((sX8_goCheck (((sX8_remember (msS M 0 (if (sX8_hasSheet (M.1.2 1) p1) = true then (if (sX8_has ((M.1.2 1) (8 : Int32).toNatClampNeg) p1) = true then (0 : Int32) else (2 : Int32)) else (1 : Int32))))).1.2 1) p1)).1, (msA ((sX8_remember (msS M 0 (if (sX8_hasSheet (M.1.2 1) p1) = true then (if (sX8_has ((M.1.2 1) (8 : Int32).toNatClampNeg) p1) = true then (0 : Int32) else (2 : Int32)) else (1 : Int32))))) 1 (((sX8_goCheck (((sX8_remember (msS M 0 (if (sX8_hasSheet (M.1.2 1) p1) = true then (if (sX8_has ((M.1.2 1) (8 : Int32).toNatClampNeg) p1) = true then (0 : Int32) else (2 : Int32)) else (1 : Int32))))).1.2 1) p1)).2))))
set_option maxHeartbeats 4000000 in
set_option maxRecDepth 100000 in
theorem c_X8_check (l : Launch) (D : va_G) (cs : Nat → ClassId) (w : Nat → Nat) (M : MS) (p1 : Int32) (hd : mD w) (hv0 : MV (M.1.2 1)) (h0 : vp_in (M.1.1 1) 15) : Met l yX8_check (wc yX8_check cX8_check 2 (some .int)) ({ frames := 2, cells := 0, slots := 0, locals := 46 } : Room) (va_Pc [.ref (w 0), .int p1] (PE D cs (mW cs w M))) (va_Qi (fun (r9 : Int32) (u : MS) => r9 = (sX8_check M p1).1 ∧ u = (sX8_check M p1).2) (fun u t => va_P D vwC (mW cs w u) t.heap) (mA w)) 0 0 (mA w) := by
  obtain ⟨v, hv⟩ : ∃ v, sX8_check M p1 = v := ⟨_, rfl⟩
  rw [hv]
  refine met_o (lv := [(0, .ref (w 0)), (1, .int p1)]) (by decide) (Nat.le_of_ble_eq_true rfl) rfl ?_
  intro p e s m args below meth c ls hx hb hr hml hts hown hlocks hin hP hE hl
  have hown : s.vm.findClass RX8 = some m.cls := hown
  have hK := hE.1
  have hP : va_P D vwC (mW cs w M) s.heap := hP
  have hS : va_S (mA w) s.heap s.heap [] := va_S.rf
  unfold sX8_check at hv
  refine lv_aload_n hx hb dX8_check_0 rfl (lv_at hl 0 rfl) ?_
  refine lv_aload_n hx hb dX8_check_1 rfl (lv_at hl 0 rfl) ?_
  refine va_get (D := D) (ci := 8) (v := .ref (w 1)) (C := RX8) (T := TX8) (N := 14) hx hb hts iw_X8 hown hK hP 0 rfl rfl 1 (by decide) (hts _ w_fl_X8_7) (fun _ h9 => h9) rfl dX8_check_2 ?_
  refine lv_iload_n hx hb dX8_check_5 rfl (lv_at hl 1 rfl) ?_
  refine ro_i (b2i (sX8_hasSheet (M.1.2 1) p1)) (run_c (va_runS (As := [.ref (w 1), .int p1]) (rest := [.ref (w 0)]) ⟨hx, hb, hml, hown, hts⟩ (c_X8_hasSheet l D cs (w 1) (M.1.2 1) p1) (cwS 2 hts (good_S w_ml_X8_139 w_st_X8_hasSheet w_in_X8 w_co_X8_hasSheet) rfl rfl rfl ⟨rfl, hd_X8_hasSheet⟩ ⟨Nat.le_of_ble_eq_true rfl, Nat.le_of_ble_eq_true rfl⟩) (pe_S (hP.sub (ws' := rowW cs (w 1) (M.1.2 1)) [1] rfl) hE) rfl rfl hl.1 rfl (lv_room (Nat.le_of_ble_eq_true rfl)) dX8_check_6 ⟨Nat.zero_le _, Nat.zero_le _⟩)) ?_
  refine join_i (J := 35) (ls := ls) (rest := [.ref (w 0)]) ((if (sX8_hasSheet (M.1.2 1) p1) = true then (if (sX8_has ((M.1.2 1) (8 : Int32).toNatClampNeg) p1) = true then (0 : Int32) else (2 : Int32)) else (1 : Int32))) ?_ (fun hJ => ?_)
  · refine w_b (refB (if (sX8_hasSheet (M.1.2 1) p1) = true then (if (sX8_has ((M.1.2 1) (8 : Int32).toNatClampNeg) p1) = true then (0 : Int32) else (2 : Int32)) else (1 : Int32)), (msS M 0 (if (sX8_hasSheet (M.1.2 1) p1) = true then (if (sX8_has ((M.1.2 1) (8 : Int32).toNatClampNeg) p1) = true then (0 : Int32) else (2 : Int32)) else (1 : Int32)))) (va_runV (As := [.int (if (sX8_hasSheet (M.1.2 1) p1) = true then (if (sX8_has ((M.1.2 1) (8 : Int32).toNatClampNeg) p1) = true then (0 : Int32) else (2 : Int32)) else (1 : Int32))]) (rest := []) ⟨hx, hb, hml, hown, hts⟩ (c_X8_refused l D cs w M (if (sX8_hasSheet (M.1.2 1) p1) = true then (if (sX8_has ((M.1.2 1) (8 : Int32).toNatClampNeg) p1) = true then (0 : Int32) else (2 : Int32)) else (1 : Int32)) hd) (cwV 1 hts (good_V w_ml_X8_105 w_im_X8_refused w_se_X8_refused w_in_X8 w_co_X8_refused) rfl rfl rfl ⟨rfl, hd_X8_refused⟩ ⟨Nat.le_of_ble_eq_true rfl, Nat.le_of_ble_eq_true rfl⟩) (pe_W (C := RX8) (T := TX8) (N := 14) (ci := 8) (q0 := 0) hP hE rfl rfl) rfl rfl hl.1 rfl (lv_room (Nat.le_of_ble_eq_true rfl)) dX8_check_35 ⟨Nat.zero_le _, Nat.zero_le _⟩) hS (fun _ _ h => h) (fun _ h => h) (fun t locs hB hz hk hS => ?_)
    have hP : va_P D vwC (mW cs w (msS M 0 (if (sX8_hasSheet (M.1.2 1) p1) = true then (if (sX8_has ((M.1.2 1) (8 : Int32).toNatClampNeg) p1) = true then (0 : Int32) else (2 : Int32)) else (1 : Int32)))) t.heap := hB
    refine lv_if_eq (tgt := 43) hx hb dX8_check_38 (by decide) (fun c38 => ?_) (fun c38 => ?_)
    · have c38 := b2i_f c38
      have hv := (if_neg c38).symm.trans hv
      refine lv_aload_n hx hb dX8_check_43 rfl (lv_at hl 0 rfl) ?_
      obtain ⟨G44, hG44⟩ : ∃ G, sX8_remember (msS M 0 (if (sX8_hasSheet (M.1.2 1) p1) = true then (if (sX8_has ((M.1.2 1) (8 : Int32).toNatClampNeg) p1) = true then (0 : Int32) else (2 : Int32)) else (1 : Int32))) = G := ⟨_, rfl⟩
      have k44 := (c_X8_remember l D cs w (msS M 0 (if (sX8_hasSheet (M.1.2 1) p1) = true then (if (sX8_has ((M.1.2 1) (8 : Int32).toNatClampNeg) p1) = true then (0 : Int32) else (2 : Int32)) else (1 : Int32))) hd h0)
      rw [hG44] at k44
      rw [hG44] at hv
      refine w_v (G44) (va_runV (As := []) (rest := []) ⟨hx, hb, hml, hown, hts⟩ k44 (cwV 0 hts (good_V w_ml_X8_248 w_im_X8_remember w_se_X8_remember w_in_X8 w_co_X8_remember) rfl rfl rfl ⟨rfl, hd_X8_remember⟩ ⟨Nat.le_of_ble_eq_true rfl, Nat.le_of_ble_eq_true rfl⟩) (pe_W (C := RX8) (T := TX8) (N := 14) (ci := 8) (q0 := 0) hP hE rfl rfl) rfl rfl hl.1 rfl (lv_room (Nat.le_of_ble_eq_true rfl)) dX8_check_44 ⟨Nat.zero_le _, Nat.zero_le _⟩) hS (fun _ _ h => h) (fun _ h => h) (fun t locs hB hz hk hS => ?_)
      have hP : va_P D vwC (mW cs w (G44)) t.heap := hB
      have g1 : G44.1.2 1 = M.1.2 1 := by rw [← hG44, rem_now]; rfl
      refine lv_aload_n hx hb dX8_check_47 rfl (lv_at hl 0 rfl) ?_
      refine va_get (D := D) (ci := 8) (v := .ref (w 1)) (C := RX8) (T := TX8) (N := 14) hx hb hts iw_X8 hown hK hP 0 rfl rfl 1 (by decide) (hts _ w_fl_X8_7) (fun _ h9 => h9) rfl dX8_check_48 ?_
      refine lv_iload_n hx hb dX8_check_51 rfl (lv_at hl 1 rfl) ?_
      obtain ⟨G52, hG52⟩ : ∃ G, sX8_goCheck ((G44).1.2 1) p1 = G := ⟨_, rfl⟩
      have k52 := (c_X8_goCheck l D cs (w 1) ((G44).1.2 1) p1)
      rw [hG52] at k52
      rw [hG52] at hv
      refine w_i (G52) (va_runS (As := [.ref (w 1), .int p1]) (rest := []) ⟨hx, hb, hml, hown, hts⟩ k52 (cwS 2 hts (good_S w_ml_X8_254 w_st_X8_goCheck w_in_X8 w_co_X8_goCheck) rfl rfl rfl ⟨rfl, hd_X8_goCheck⟩ ⟨Nat.le_of_ble_eq_true rfl, Nat.le_of_ble_eq_true rfl⟩) (pe_S (hP.sub (ws' := rowW cs (w 1) ((G44).1.2 1)) [1] rfl) hE) rfl rfl hl.1 rfl (lv_room (Nat.le_of_ble_eq_true rfl)) dX8_check_52 ⟨Nat.zero_le _, Nat.zero_le _⟩) hS (fun _ _ h => ⟨1, by decide, h⟩) (fun _ h => ⟨1, by decide, h⟩) (fun t locs hB hz hk hS => ?_)
      have hP : va_P D vwC (mW cs w (msA (G44) 1 ((G52).2))) t.heap := m_up1 hd hP hk hB
      exact W.iret (v := (G52).1) hx hb hr (fun t ht hW => ⟨⟨(G52).1, (msA (G44) 1 ((G52).2)), rfl, pair_eq hv, pw ht hP⟩, hS.F ht⟩) hS.2.2 dX8_check_55 (hlocks := hlocks)
    · have c38 := b2i_t c38
      have hv := (if_pos c38).symm.trans hv
      refine lv_iconst (v := 0) hx hb dX8_check_41 (by decide) ?_
      exact W.iret (v := 0) hx hb hr (fun t ht hW => ⟨⟨0, (msS M 0 (if (sX8_hasSheet (M.1.2 1) p1) = true then (if (sX8_has ((M.1.2 1) (8 : Int32).toNatClampNeg) p1) = true then (0 : Int32) else (2 : Int32)) else (1 : Int32))), rfl, pair_eq hv, pw ht hP⟩, hS.F ht⟩) hS.2.2 dX8_check_42 (hlocks := hlocks)
  · refine lv_if_ne (tgt := 16) hx hb dX8_check_9 (by decide) (fun c9 => ?_) (fun c9 => ?_)
    · have c9 := b2i_t c9
      refine lv_aload_n hx hb dX8_check_16 rfl (lv_at hl 0 rfl) ?_
      refine va_get (D := D) (ci := 8) (v := .ref (w 1)) (C := RX8) (T := TX8) (N := 14) hx hb hts iw_X8 hown hK hP 0 rfl rfl 1 (by decide) (hts _ w_fl_X8_7) (fun _ h9 => h9) rfl dX8_check_17 ?_
      refine lv_bipush (v := 8) hx hb dX8_check_20 (by decide) ?_
      refine va_iald (cA := cs 0) (n := 414) (f := (M.1.2 1)) hx hb hK hP 1 0 rfl rfl (by unfold vp_in; decide) dX8_check_22 ?_
      refine lv_iload_n hx hb dX8_check_23 rfl (lv_at hl 1 rfl) ?_
      refine ro_i (b2i (sX8_has ((M.1.2 1) (8 : Int32).toNatClampNeg) p1)) (run_c (va_runS (As := [.int ((M.1.2 1) (8 : Int32).toNatClampNeg), .int p1]) (rest := [.ref (w 0)]) ⟨hx, hb, hml, hown, hts⟩ (c_X8_has l D cs ((M.1.2 1) (8 : Int32).toNatClampNeg) p1) (cwS 2 hts (good_S w_ml_X8_66 w_st_X8_has w_in_X8 w_co_X8_has) rfl rfl rfl ⟨rfl, hd_X8_has⟩ ⟨Nat.le_of_ble_eq_true rfl, Nat.le_of_ble_eq_true rfl⟩) (pe_S (p_nil D _) hE) rfl rfl hl.1 rfl (lv_room (Nat.le_of_ble_eq_true rfl)) dX8_check_24 ⟨Nat.zero_le _, Nat.zero_le _⟩)) ?_
      refine lv_if_ne (tgt := 34) hx hb dX8_check_27 (by decide) (fun c27 => ?_) (fun c27 => ?_)
      · have c27 := b2i_t c27
        refine lv_iconst (v := 0) hx hb dX8_check_34 (by decide) ?_
        exact hJ _ ((if_pos c9).trans ((if_pos c27).trans rfl))
      · have c27 := b2i_f c27
        refine lv_iconst (v := 2) hx hb dX8_check_30 (by decide) ?_
        refine lv_goto (tgt := 35) hx hb dX8_check_31 (by decide) ?_
        exact hJ _ ((if_pos c9).trans ((if_neg c27).trans rfl))
    · have c9 := b2i_f c9
      refine lv_iconst (v := 1) hx hb dX8_check_12 (by decide) ?_
      refine lv_goto (tgt := 35) hx hb dX8_check_13 (by decide) ?_
      exact hJ _ ((if_neg c9).trans rfl)
theorem hd_X8_print : yX8_print.cls ≠ "java/lang/invoke/MethodHandle" ∧ yX8_print.cls ≠ "java/lang/invoke/VarHandle" ∧ (parseMethodDescriptor yX8_print.desc).map (fun d => d.parameters.length) = some 2 := by decide +kernel
def sX8_print (M : MS) (p1 : Int32) (p2 : Int32) : Int32 × MS := (if (refB (if (sX8_hasSheet (M.1.2 1) p1) = true then (if (sX8_isSite p2) = true then (if (sX8_canPrint (M.1.2 1)) = true then (0 : Int32) else (2 : Int32)) else (1 : Int32)) else (1 : Int32))) = true then (0, (msS M 0 (if (sX8_hasSheet (M.1.2 1) p1) = true then (if (sX8_isSite p2) = true then (if (sX8_canPrint (M.1.2 1)) = true then (0 : Int32) else (2 : Int32)) else (1 : Int32)) else (1 : Int32)))) else (((sX8_goPrint (((sX8_remember (msS M 0 (if (sX8_hasSheet (M.1.2 1) p1) = true then (if (sX8_isSite p2) = true then (if (sX8_canPrint (M.1.2 1)) = true then (0 : Int32) else (2 : Int32)) else (1 : Int32)) else (1 : Int32))))).1.2 1) p1 p2)).1, (msA ((sX8_remember (msS M 0 (if (sX8_hasSheet (M.1.2 1) p1) = true then (if (sX8_isSite p2) = true then (if (sX8_canPrint (M.1.2 1)) = true then (0 : Int32) else (2 : Int32)) else (1 : Int32)) else (1 : Int32))))) 1 (((sX8_goPrint (((sX8_remember (msS M 0 (if (sX8_hasSheet (M.1.2 1) p1) = true then (if (sX8_isSite p2) = true then (if (sX8_canPrint (M.1.2 1)) = true then (0 : Int32) else (2 : Int32)) else (1 : Int32)) else (1 : Int32))))).1.2 1) p1 p2)).2))))
set_option maxHeartbeats 4000000 in
set_option maxRecDepth 100000 in
theorem c_X8_print (l : Launch) (D : va_G) (cs : Nat → ClassId) (w : Nat → Nat) (M : MS) (p1 : Int32) (p2 : Int32) (hd : mD w) (hv0 : MV (M.1.2 1)) (h0 : vp_in (M.1.1 1) 15) : Met l yX8_print (wc yX8_print cX8_print 3 (some .int)) ({ frames := 2, cells := 0, slots := 0, locals := 46 } : Room) (va_Pc [.ref (w 0), .int p1, .int p2] (PE D cs (mW cs w M))) (va_Qi (fun (r9 : Int32) (u : MS) => r9 = (sX8_print M p1 p2).1 ∧ u = (sX8_print M p1 p2).2) (fun u t => va_P D vwC (mW cs w u) t.heap) (mA w)) 0 0 (mA w) := by
  obtain ⟨v, hv⟩ : ∃ v, sX8_print M p1 p2 = v := ⟨_, rfl⟩
  rw [hv]
  refine met_o (lv := [(0, .ref (w 0)), (1, .int p1), (2, .int p2)]) (by decide) (Nat.le_of_ble_eq_true rfl) rfl ?_
  intro p e s m args below meth c ls hx hb hr hml hts hown hlocks hin hP hE hl
  have hown : s.vm.findClass RX8 = some m.cls := hown
  have hK := hE.1
  have hP : va_P D vwC (mW cs w M) s.heap := hP
  have hS : va_S (mA w) s.heap s.heap [] := va_S.rf
  unfold sX8_print at hv
  refine lv_aload_n hx hb dX8_print_0 rfl (lv_at hl 0 rfl) ?_
  refine lv_aload_n hx hb dX8_print_1 rfl (lv_at hl 0 rfl) ?_
  refine va_get (D := D) (ci := 8) (v := .ref (w 1)) (C := RX8) (T := TX8) (N := 14) hx hb hts iw_X8 hown hK hP 0 rfl rfl 1 (by decide) (hts _ w_fl_X8_7) (fun _ h9 => h9) rfl dX8_print_2 ?_
  refine lv_iload_n hx hb dX8_print_5 rfl (lv_at hl 1 rfl) ?_
  refine ro_i (b2i (sX8_hasSheet (M.1.2 1) p1)) (run_c (va_runS (As := [.ref (w 1), .int p1]) (rest := [.ref (w 0)]) ⟨hx, hb, hml, hown, hts⟩ (c_X8_hasSheet l D cs (w 1) (M.1.2 1) p1) (cwS 2 hts (good_S w_ml_X8_139 w_st_X8_hasSheet w_in_X8 w_co_X8_hasSheet) rfl rfl rfl ⟨rfl, hd_X8_hasSheet⟩ ⟨Nat.le_of_ble_eq_true rfl, Nat.le_of_ble_eq_true rfl⟩) (pe_S (hP.sub (ws' := rowW cs (w 1) (M.1.2 1)) [1] rfl) hE) rfl rfl hl.1 rfl (lv_room (Nat.le_of_ble_eq_true rfl)) dX8_print_6 ⟨Nat.zero_le _, Nat.zero_le _⟩)) ?_
  refine join_i (J := 38) (ls := ls) (rest := [.ref (w 0)]) ((if (sX8_hasSheet (M.1.2 1) p1) = true then (if (sX8_isSite p2) = true then (if (sX8_canPrint (M.1.2 1)) = true then (0 : Int32) else (2 : Int32)) else (1 : Int32)) else (1 : Int32))) ?_ (fun hJ => ?_)
  · refine w_b (refB (if (sX8_hasSheet (M.1.2 1) p1) = true then (if (sX8_isSite p2) = true then (if (sX8_canPrint (M.1.2 1)) = true then (0 : Int32) else (2 : Int32)) else (1 : Int32)) else (1 : Int32)), (msS M 0 (if (sX8_hasSheet (M.1.2 1) p1) = true then (if (sX8_isSite p2) = true then (if (sX8_canPrint (M.1.2 1)) = true then (0 : Int32) else (2 : Int32)) else (1 : Int32)) else (1 : Int32)))) (va_runV (As := [.int (if (sX8_hasSheet (M.1.2 1) p1) = true then (if (sX8_isSite p2) = true then (if (sX8_canPrint (M.1.2 1)) = true then (0 : Int32) else (2 : Int32)) else (1 : Int32)) else (1 : Int32))]) (rest := []) ⟨hx, hb, hml, hown, hts⟩ (c_X8_refused l D cs w M (if (sX8_hasSheet (M.1.2 1) p1) = true then (if (sX8_isSite p2) = true then (if (sX8_canPrint (M.1.2 1)) = true then (0 : Int32) else (2 : Int32)) else (1 : Int32)) else (1 : Int32)) hd) (cwV 1 hts (good_V w_ml_X8_105 w_im_X8_refused w_se_X8_refused w_in_X8 w_co_X8_refused) rfl rfl rfl ⟨rfl, hd_X8_refused⟩ ⟨Nat.le_of_ble_eq_true rfl, Nat.le_of_ble_eq_true rfl⟩) (pe_W (C := RX8) (T := TX8) (N := 14) (ci := 8) (q0 := 0) hP hE rfl rfl) rfl rfl hl.1 rfl (lv_room (Nat.le_of_ble_eq_true rfl)) dX8_print_38 ⟨Nat.zero_le _, Nat.zero_le _⟩) hS (fun _ _ h => h) (fun _ h => h) (fun t locs hB hz hk hS => ?_)
    have hP : va_P D vwC (mW cs w (msS M 0 (if (sX8_hasSheet (M.1.2 1) p1) = true then (if (sX8_isSite p2) = true then (if (sX8_canPrint (M.1.2 1)) = true then (0 : Int32) else (2 : Int32)) else (1 : Int32)) else (1 : Int32)))) t.heap := hB
    refine lv_if_eq (tgt := 46) hx hb dX8_print_41 (by decide) (fun c41 => ?_) (fun c41 => ?_)
    · have c41 := b2i_f c41
      have hv := (if_neg c41).symm.trans hv
      have f1 := ift (by decide) (rf0 c41)
      have f2 := hasS_t hv0.1.1 f1.1
      have f3 := ift (by decide) f1.2
      have f4 := ift (by decide) f3.2
      have f5 := cp_in hv0 f4.1
      refine lv_aload_n hx hb dX8_print_46 rfl (lv_at hl 0 rfl) ?_
      obtain ⟨G47, hG47⟩ : ∃ G, sX8_remember (msS M 0 (if (sX8_hasSheet (M.1.2 1) p1) = true then (if (sX8_isSite p2) = true then (if (sX8_canPrint (M.1.2 1)) = true then (0 : Int32) else (2 : Int32)) else (1 : Int32)) else (1 : Int32))) = G := ⟨_, rfl⟩
      have k47 := (c_X8_remember l D cs w (msS M 0 (if (sX8_hasSheet (M.1.2 1) p1) = true then (if (sX8_isSite p2) = true then (if (sX8_canPrint (M.1.2 1)) = true then (0 : Int32) else (2 : Int32)) else (1 : Int32)) else (1 : Int32))) hd h0)
      rw [hG47] at k47
      rw [hG47] at hv
      refine w_v (G47) (va_runV (As := []) (rest := []) ⟨hx, hb, hml, hown, hts⟩ k47 (cwV 0 hts (good_V w_ml_X8_248 w_im_X8_remember w_se_X8_remember w_in_X8 w_co_X8_remember) rfl rfl rfl ⟨rfl, hd_X8_remember⟩ ⟨Nat.le_of_ble_eq_true rfl, Nat.le_of_ble_eq_true rfl⟩) (pe_W (C := RX8) (T := TX8) (N := 14) (ci := 8) (q0 := 0) hP hE rfl rfl) rfl rfl hl.1 rfl (lv_room (Nat.le_of_ble_eq_true rfl)) dX8_print_47 ⟨Nat.zero_le _, Nat.zero_le _⟩) hS (fun _ _ h => h) (fun _ h => h) (fun t locs hB hz hk hS => ?_)
      have hP : va_P D vwC (mW cs w (G47)) t.heap := hB
      have g1 : G47.1.2 1 = M.1.2 1 := by rw [← hG47, rem_now]; rfl
      refine lv_aload_n hx hb dX8_print_50 rfl (lv_at hl 0 rfl) ?_
      refine va_get (D := D) (ci := 8) (v := .ref (w 1)) (C := RX8) (T := TX8) (N := 14) hx hb hts iw_X8 hown hK hP 0 rfl rfl 1 (by decide) (hts _ w_fl_X8_7) (fun _ h9 => h9) rfl dX8_print_51 ?_
      refine lv_iload_n hx hb dX8_print_54 rfl (lv_at hl 1 rfl) ?_
      refine lv_iload_n hx hb dX8_print_55 rfl (lv_at hl 2 rfl) ?_
      obtain ⟨G56, hG56⟩ : ∃ G, sX8_goPrint ((G47).1.2 1) p1 p2 = G := ⟨_, rfl⟩
      have k56 := (c_X8_goPrint l D cs (w 1) ((G47).1.2 1) p1 p2 (by rw [g1]; exact f5) (f2.v hv0))
      rw [hG56] at k56
      rw [hG56] at hv
      refine w_i (G56) (va_runS (As := [.ref (w 1), .int p1, .int p2]) (rest := []) ⟨hx, hb, hml, hown, hts⟩ k56 (cwS 3 hts (good_S w_ml_X8_175 w_st_X8_goPrint w_in_X8 w_co_X8_goPrint) rfl rfl rfl ⟨rfl, hd_X8_goPrint⟩ ⟨Nat.le_of_ble_eq_true rfl, Nat.le_of_ble_eq_true rfl⟩) (pe_S (hP.sub (ws' := rowW cs (w 1) ((G47).1.2 1)) [1] rfl) hE) rfl rfl hl.1 rfl (lv_room (Nat.le_of_ble_eq_true rfl)) dX8_print_56 ⟨Nat.zero_le _, Nat.zero_le _⟩) hS (fun _ _ h => ⟨1, by decide, h⟩) (fun _ h => ⟨1, by decide, h⟩) (fun t locs hB hz hk hS => ?_)
      have hP : va_P D vwC (mW cs w (msA (G47) 1 ((G56).2))) t.heap := m_up1 hd hP hk hB
      exact W.iret (v := (G56).1) hx hb hr (fun t ht hW => ⟨⟨(G56).1, (msA (G47) 1 ((G56).2)), rfl, pair_eq hv, pw ht hP⟩, hS.F ht⟩) hS.2.2 dX8_print_59 (hlocks := hlocks)
    · have c41 := b2i_t c41
      have hv := (if_pos c41).symm.trans hv
      refine lv_iconst (v := 0) hx hb dX8_print_44 (by decide) ?_
      exact W.iret (v := 0) hx hb hr (fun t ht hW => ⟨⟨0, (msS M 0 (if (sX8_hasSheet (M.1.2 1) p1) = true then (if (sX8_isSite p2) = true then (if (sX8_canPrint (M.1.2 1)) = true then (0 : Int32) else (2 : Int32)) else (1 : Int32)) else (1 : Int32))), rfl, pair_eq hv, pw ht hP⟩, hS.F ht⟩) hS.2.2 dX8_print_45 (hlocks := hlocks)
  · refine lv_if_eq (tgt := 19) hx hb dX8_print_9 (by decide) (fun c9 => ?_) (fun c9 => ?_)
    · have c9 := b2i_f c9
      refine lv_iconst (v := 1) hx hb dX8_print_19 (by decide) ?_
      refine lv_goto (tgt := 38) hx hb dX8_print_20 (by decide) ?_
      exact hJ _ ((if_neg c9).trans rfl)
    · have c9 := b2i_t c9
      refine lv_iload_n hx hb dX8_print_12 rfl (lv_at hl 2 rfl) ?_
      refine ro_i (b2i (sX8_isSite p2)) (run_c (va_runS (As := [.int p2]) (rest := [.ref (w 0)]) ⟨hx, hb, hml, hown, hts⟩ (c_X8_isSite l D cs p2) (cwS 1 hts (good_S w_ml_X8_257 w_st_X8_isSite w_in_X8 w_co_X8_isSite) rfl rfl rfl ⟨rfl, hd_X8_isSite⟩ ⟨Nat.le_of_ble_eq_true rfl, Nat.le_of_ble_eq_true rfl⟩) (pe_S (p_nil D _) hE) rfl rfl hl.1 rfl (lv_room (Nat.le_of_ble_eq_true rfl)) dX8_print_13 ⟨Nat.zero_le _, Nat.zero_le _⟩)) ?_
      refine lv_if_ne (tgt := 23) hx hb dX8_print_16 (by decide) (fun c16 => ?_) (fun c16 => ?_)
      · have c16 := b2i_t c16
        refine lv_aload_n hx hb dX8_print_23 rfl (lv_at hl 0 rfl) ?_
        refine va_get (D := D) (ci := 8) (v := .ref (w 1)) (C := RX8) (T := TX8) (N := 14) hx hb hts iw_X8 hown hK hP 0 rfl rfl 1 (by decide) (hts _ w_fl_X8_7) (fun _ h9 => h9) rfl dX8_print_24 ?_
        refine ro_i (b2i (sX8_canPrint (M.1.2 1))) (run_c (va_runS (As := [.ref (w 1)]) (rest := [.ref (w 0)]) ⟨hx, hb, hml, hown, hts⟩ (c_X8_canPrint l D cs (w 1) (M.1.2 1)) (cwS 1 hts (good_S w_ml_X8_172 w_st_X8_canPrint w_in_X8 w_co_X8_canPrint) rfl rfl rfl ⟨rfl, hd_X8_canPrint⟩ ⟨Nat.le_of_ble_eq_true rfl, Nat.le_of_ble_eq_true rfl⟩) (pe_S (hP.sub (ws' := rowW cs (w 1) (M.1.2 1)) [1] rfl) hE) rfl rfl hl.1 rfl (lv_room (Nat.le_of_ble_eq_true rfl)) dX8_print_27 ⟨Nat.zero_le _, Nat.zero_le _⟩)) ?_
        refine lv_if_ne (tgt := 37) hx hb dX8_print_30 (by decide) (fun c30 => ?_) (fun c30 => ?_)
        · have c30 := b2i_t c30
          refine lv_iconst (v := 0) hx hb dX8_print_37 (by decide) ?_
          exact hJ _ ((if_pos c9).trans ((if_pos c16).trans ((if_pos c30).trans rfl)))
        · have c30 := b2i_f c30
          refine lv_iconst (v := 2) hx hb dX8_print_33 (by decide) ?_
          refine lv_goto (tgt := 38) hx hb dX8_print_34 (by decide) ?_
          exact hJ _ ((if_pos c9).trans ((if_pos c16).trans ((if_neg c30).trans rfl)))
      · have c16 := b2i_f c16
        refine lv_iconst (v := 1) hx hb dX8_print_19 (by decide) ?_
        refine lv_goto (tgt := 38) hx hb dX8_print_20 (by decide) ?_
        exact hJ _ ((if_pos c9).trans ((if_neg c16).trans rfl))
theorem hd_X8_stamp : yX8_stamp.cls ≠ "java/lang/invoke/MethodHandle" ∧ yX8_stamp.cls ≠ "java/lang/invoke/VarHandle" ∧ (parseMethodDescriptor yX8_stamp.desc).map (fun d => d.parameters.length) = some 2 := by decide +kernel
def sX8_stamp (M : MS) (p1 : Int32) (p2 : Int32) : Int32 × MS := (if (refB (if (sX8_hasPrint (M.1.2 1) p1) = true then (if (sX8_isHand p2) = true then (if (sX8_canStamp (M.1.2 1) p1) = true then (0 : Int32) else (2 : Int32)) else (1 : Int32)) else (1 : Int32))) = true then (0, (msS M 0 (if (sX8_hasPrint (M.1.2 1) p1) = true then (if (sX8_isHand p2) = true then (if (sX8_canStamp (M.1.2 1) p1) = true then (0 : Int32) else (2 : Int32)) else (1 : Int32)) else (1 : Int32)))) else (((sX8_goStamp (((sX8_remember (msS M 0 (if (sX8_hasPrint (M.1.2 1) p1) = true then (if (sX8_isHand p2) = true then (if (sX8_canStamp (M.1.2 1) p1) = true then (0 : Int32) else (2 : Int32)) else (1 : Int32)) else (1 : Int32))))).1.2 1) p1 p2)).1, (msA ((sX8_remember (msS M 0 (if (sX8_hasPrint (M.1.2 1) p1) = true then (if (sX8_isHand p2) = true then (if (sX8_canStamp (M.1.2 1) p1) = true then (0 : Int32) else (2 : Int32)) else (1 : Int32)) else (1 : Int32))))) 1 (((sX8_goStamp (((sX8_remember (msS M 0 (if (sX8_hasPrint (M.1.2 1) p1) = true then (if (sX8_isHand p2) = true then (if (sX8_canStamp (M.1.2 1) p1) = true then (0 : Int32) else (2 : Int32)) else (1 : Int32)) else (1 : Int32))))).1.2 1) p1 p2)).2))))
set_option maxHeartbeats 4000000 in
set_option maxRecDepth 100000 in
theorem c_X8_stamp (l : Launch) (D : va_G) (cs : Nat → ClassId) (w : Nat → Nat) (M : MS) (p1 : Int32) (p2 : Int32) (hd : mD w) (hv0 : MV (M.1.2 1)) (h0 : vp_in (M.1.1 1) 15) : Met l yX8_stamp (wc yX8_stamp cX8_stamp 3 (some .int)) ({ frames := 3, cells := 0, slots := 0, locals := 63 } : Room) (va_Pc [.ref (w 0), .int p1, .int p2] (PE D cs (mW cs w M))) (va_Qi (fun (r9 : Int32) (u : MS) => r9 = (sX8_stamp M p1 p2).1 ∧ u = (sX8_stamp M p1 p2).2) (fun u t => va_P D vwC (mW cs w u) t.heap) (mA w)) 0 0 (mA w) := by
  obtain ⟨v, hv⟩ : ∃ v, sX8_stamp M p1 p2 = v := ⟨_, rfl⟩
  rw [hv]
  refine met_o (lv := [(0, .ref (w 0)), (1, .int p1), (2, .int p2)]) (by decide) (Nat.le_of_ble_eq_true rfl) rfl ?_
  intro p e s m args below meth c ls hx hb hr hml hts hown hlocks hin hP hE hl
  have hown : s.vm.findClass RX8 = some m.cls := hown
  have hK := hE.1
  have hP : va_P D vwC (mW cs w M) s.heap := hP
  have hS : va_S (mA w) s.heap s.heap [] := va_S.rf
  unfold sX8_stamp at hv
  refine lv_aload_n hx hb dX8_stamp_0 rfl (lv_at hl 0 rfl) ?_
  refine lv_aload_n hx hb dX8_stamp_1 rfl (lv_at hl 0 rfl) ?_
  refine va_get (D := D) (ci := 8) (v := .ref (w 1)) (C := RX8) (T := TX8) (N := 14) hx hb hts iw_X8 hown hK hP 0 rfl rfl 1 (by decide) (hts _ w_fl_X8_7) (fun _ h9 => h9) rfl dX8_stamp_2 ?_
  refine lv_iload_n hx hb dX8_stamp_5 rfl (lv_at hl 1 rfl) ?_
  refine ro_i (b2i (sX8_hasPrint (M.1.2 1) p1)) (run_c (va_runS (As := [.ref (w 1), .int p1]) (rest := [.ref (w 0)]) ⟨hx, hb, hml, hown, hts⟩ (c_X8_hasPrint l D cs (w 1) (M.1.2 1) p1) (cwS 2 hts (good_S w_ml_X8_178 w_st_X8_hasPrint w_in_X8 w_co_X8_hasPrint) rfl rfl rfl ⟨rfl, hd_X8_hasPrint⟩ ⟨Nat.le_of_ble_eq_true rfl, Nat.le_of_ble_eq_true rfl⟩) (pe_S (hP.sub (ws' := rowW cs (w 1) (M.1.2 1)) [1] rfl) hE) rfl rfl hl.1 rfl (lv_room (Nat.le_of_ble_eq_true rfl)) dX8_stamp_6 ⟨Nat.zero_le _, Nat.zero_le _⟩)) ?_
  refine join_i (J := 39) (ls := ls) (rest := [.ref (w 0)]) ((if (sX8_hasPrint (M.1.2 1) p1) = true then (if (sX8_isHand p2) = true then (if (sX8_canStamp (M.1.2 1) p1) = true then (0 : Int32) else (2 : Int32)) else (1 : Int32)) else (1 : Int32))) ?_ (fun hJ => ?_)
  · refine w_b (refB (if (sX8_hasPrint (M.1.2 1) p1) = true then (if (sX8_isHand p2) = true then (if (sX8_canStamp (M.1.2 1) p1) = true then (0 : Int32) else (2 : Int32)) else (1 : Int32)) else (1 : Int32)), (msS M 0 (if (sX8_hasPrint (M.1.2 1) p1) = true then (if (sX8_isHand p2) = true then (if (sX8_canStamp (M.1.2 1) p1) = true then (0 : Int32) else (2 : Int32)) else (1 : Int32)) else (1 : Int32)))) (va_runV (As := [.int (if (sX8_hasPrint (M.1.2 1) p1) = true then (if (sX8_isHand p2) = true then (if (sX8_canStamp (M.1.2 1) p1) = true then (0 : Int32) else (2 : Int32)) else (1 : Int32)) else (1 : Int32))]) (rest := []) ⟨hx, hb, hml, hown, hts⟩ (c_X8_refused l D cs w M (if (sX8_hasPrint (M.1.2 1) p1) = true then (if (sX8_isHand p2) = true then (if (sX8_canStamp (M.1.2 1) p1) = true then (0 : Int32) else (2 : Int32)) else (1 : Int32)) else (1 : Int32)) hd) (cwV 1 hts (good_V w_ml_X8_105 w_im_X8_refused w_se_X8_refused w_in_X8 w_co_X8_refused) rfl rfl rfl ⟨rfl, hd_X8_refused⟩ ⟨Nat.le_of_ble_eq_true rfl, Nat.le_of_ble_eq_true rfl⟩) (pe_W (C := RX8) (T := TX8) (N := 14) (ci := 8) (q0 := 0) hP hE rfl rfl) rfl rfl hl.1 rfl (lv_room (Nat.le_of_ble_eq_true rfl)) dX8_stamp_39 ⟨Nat.zero_le _, Nat.zero_le _⟩) hS (fun _ _ h => h) (fun _ h => h) (fun t locs hB hz hk hS => ?_)
    have hP : va_P D vwC (mW cs w (msS M 0 (if (sX8_hasPrint (M.1.2 1) p1) = true then (if (sX8_isHand p2) = true then (if (sX8_canStamp (M.1.2 1) p1) = true then (0 : Int32) else (2 : Int32)) else (1 : Int32)) else (1 : Int32)))) t.heap := hB
    refine lv_if_eq (tgt := 47) hx hb dX8_stamp_42 (by decide) (fun c42 => ?_) (fun c42 => ?_)
    · have c42 := b2i_f c42
      have hv := (if_neg c42).symm.trans hv
      have f1 := ift (by decide) (rf0 c42)
      have f2 := hasP_t hv0.2.1.1 f1.1
      refine lv_aload_n hx hb dX8_stamp_47 rfl (lv_at hl 0 rfl) ?_
      obtain ⟨G48, hG48⟩ : ∃ G, sX8_remember (msS M 0 (if (sX8_hasPrint (M.1.2 1) p1) = true then (if (sX8_isHand p2) = true then (if (sX8_canStamp (M.1.2 1) p1) = true then (0 : Int32) else (2 : Int32)) else (1 : Int32)) else (1 : Int32))) = G := ⟨_, rfl⟩
      have k48 := (c_X8_remember l D cs w (msS M 0 (if (sX8_hasPrint (M.1.2 1) p1) = true then (if (sX8_isHand p2) = true then (if (sX8_canStamp (M.1.2 1) p1) = true then (0 : Int32) else (2 : Int32)) else (1 : Int32)) else (1 : Int32))) hd h0)
      rw [hG48] at k48
      rw [hG48] at hv
      refine w_v (G48) (va_runV (As := []) (rest := []) ⟨hx, hb, hml, hown, hts⟩ k48 (cwV 0 hts (good_V w_ml_X8_248 w_im_X8_remember w_se_X8_remember w_in_X8 w_co_X8_remember) rfl rfl rfl ⟨rfl, hd_X8_remember⟩ ⟨Nat.le_of_ble_eq_true rfl, Nat.le_of_ble_eq_true rfl⟩) (pe_W (C := RX8) (T := TX8) (N := 14) (ci := 8) (q0 := 0) hP hE rfl rfl) rfl rfl hl.1 rfl (lv_room (Nat.le_of_ble_eq_true rfl)) dX8_stamp_48 ⟨Nat.zero_le _, Nat.zero_le _⟩) hS (fun _ _ h => h) (fun _ h => h) (fun t locs hB hz hk hS => ?_)
      have hP : va_P D vwC (mW cs w (G48)) t.heap := hB
      have g1 : G48.1.2 1 = M.1.2 1 := by rw [← hG48, rem_now]; rfl
      refine lv_aload_n hx hb dX8_stamp_51 rfl (lv_at hl 0 rfl) ?_
      refine va_get (D := D) (ci := 8) (v := .ref (w 1)) (C := RX8) (T := TX8) (N := 14) hx hb hts iw_X8 hown hK hP 0 rfl rfl 1 (by decide) (hts _ w_fl_X8_7) (fun _ h9 => h9) rfl dX8_stamp_52 ?_
      refine lv_iload_n hx hb dX8_stamp_55 rfl (lv_at hl 1 rfl) ?_
      refine lv_iload_n hx hb dX8_stamp_56 rfl (lv_at hl 2 rfl) ?_
      obtain ⟨G57, hG57⟩ : ∃ G, sX8_goStamp ((G48).1.2 1) p1 p2 = G := ⟨_, rfl⟩
      have k57 := (c_X8_goStamp l D cs (w 1) ((G48).1.2 1) p1 p2 (f2.v hv0))
      rw [hG57] at k57
      rw [hG57] at hv
      refine w_i (G57) (va_runS (As := [.ref (w 1), .int p1, .int p2]) (rest := []) ⟨hx, hb, hml, hown, hts⟩ k57 (cwS 3 hts (good_S w_ml_X8_184 w_st_X8_goStamp w_in_X8 w_co_X8_goStamp) rfl rfl rfl ⟨rfl, hd_X8_goStamp⟩ ⟨Nat.le_of_ble_eq_true rfl, Nat.le_of_ble_eq_true rfl⟩) (pe_S (hP.sub (ws' := rowW cs (w 1) ((G48).1.2 1)) [1] rfl) hE) rfl rfl hl.1 rfl (lv_room (Nat.le_of_ble_eq_true rfl)) dX8_stamp_57 ⟨Nat.zero_le _, Nat.zero_le _⟩) hS (fun _ _ h => ⟨1, by decide, h⟩) (fun _ h => ⟨1, by decide, h⟩) (fun t locs hB hz hk hS => ?_)
      have hP : va_P D vwC (mW cs w (msA (G48) 1 ((G57).2))) t.heap := m_up1 hd hP hk hB
      exact W.iret (v := (G57).1) hx hb hr (fun t ht hW => ⟨⟨(G57).1, (msA (G48) 1 ((G57).2)), rfl, pair_eq hv, pw ht hP⟩, hS.F ht⟩) hS.2.2 dX8_stamp_60 (hlocks := hlocks)
    · have c42 := b2i_t c42
      have hv := (if_pos c42).symm.trans hv
      refine lv_iconst (v := 0) hx hb dX8_stamp_45 (by decide) ?_
      exact W.iret (v := 0) hx hb hr (fun t ht hW => ⟨⟨0, (msS M 0 (if (sX8_hasPrint (M.1.2 1) p1) = true then (if (sX8_isHand p2) = true then (if (sX8_canStamp (M.1.2 1) p1) = true then (0 : Int32) else (2 : Int32)) else (1 : Int32)) else (1 : Int32))), rfl, pair_eq hv, pw ht hP⟩, hS.F ht⟩) hS.2.2 dX8_stamp_46 (hlocks := hlocks)
  · refine lv_if_eq (tgt := 19) hx hb dX8_stamp_9 (by decide) (fun c9 => ?_) (fun c9 => ?_)
    · have c9 := b2i_f c9
      refine lv_iconst (v := 1) hx hb dX8_stamp_19 (by decide) ?_
      refine lv_goto (tgt := 39) hx hb dX8_stamp_20 (by decide) ?_
      exact hJ _ ((if_neg c9).trans rfl)
    · have c9 := b2i_t c9
      refine lv_iload_n hx hb dX8_stamp_12 rfl (lv_at hl 2 rfl) ?_
      refine ro_i (b2i (sX8_isHand p2)) (run_c (va_runS (As := [.int p2]) (rest := [.ref (w 0)]) ⟨hx, hb, hml, hown, hts⟩ (c_X8_isHand l D cs p2) (cwS 1 hts (good_S w_ml_X8_260 w_st_X8_isHand w_in_X8 w_co_X8_isHand) rfl rfl rfl ⟨rfl, hd_X8_isHand⟩ ⟨Nat.le_of_ble_eq_true rfl, Nat.le_of_ble_eq_true rfl⟩) (pe_S (p_nil D _) hE) rfl rfl hl.1 rfl (lv_room (Nat.le_of_ble_eq_true rfl)) dX8_stamp_13 ⟨Nat.zero_le _, Nat.zero_le _⟩)) ?_
      refine lv_if_ne (tgt := 23) hx hb dX8_stamp_16 (by decide) (fun c16 => ?_) (fun c16 => ?_)
      · have c16 := b2i_t c16
        refine lv_aload_n hx hb dX8_stamp_23 rfl (lv_at hl 0 rfl) ?_
        refine va_get (D := D) (ci := 8) (v := .ref (w 1)) (C := RX8) (T := TX8) (N := 14) hx hb hts iw_X8 hown hK hP 0 rfl rfl 1 (by decide) (hts _ w_fl_X8_7) (fun _ h9 => h9) rfl dX8_stamp_24 ?_
        refine lv_iload_n hx hb dX8_stamp_27 rfl (lv_at hl 1 rfl) ?_
        refine ro_i (b2i (sX8_canStamp (M.1.2 1) p1)) (run_c (va_runS (As := [.ref (w 1), .int p1]) (rest := [.ref (w 0)]) ⟨hx, hb, hml, hown, hts⟩ (c_X8_canStamp l D cs (w 1) (M.1.2 1) p1 ((hasP_t hv0.2.1.1 c9).v hv0)) (cwS 2 hts (good_S w_ml_X8_181 w_st_X8_canStamp w_in_X8 w_co_X8_canStamp) rfl rfl rfl ⟨rfl, hd_X8_canStamp⟩ ⟨Nat.le_of_ble_eq_true rfl, Nat.le_of_ble_eq_true rfl⟩) (pe_S (hP.sub (ws' := rowW cs (w 1) (M.1.2 1)) [1] rfl) hE) rfl rfl hl.1 rfl (lv_room (Nat.le_of_ble_eq_true rfl)) dX8_stamp_28 ⟨Nat.zero_le _, Nat.zero_le _⟩)) ?_
        refine lv_if_ne (tgt := 38) hx hb dX8_stamp_31 (by decide) (fun c31 => ?_) (fun c31 => ?_)
        · have c31 := b2i_t c31
          refine lv_iconst (v := 0) hx hb dX8_stamp_38 (by decide) ?_
          exact hJ _ ((if_pos c9).trans ((if_pos c16).trans ((if_pos c31).trans rfl)))
        · have c31 := b2i_f c31
          refine lv_iconst (v := 2) hx hb dX8_stamp_34 (by decide) ?_
          refine lv_goto (tgt := 39) hx hb dX8_stamp_35 (by decide) ?_
          exact hJ _ ((if_pos c9).trans ((if_pos c16).trans ((if_neg c31).trans rfl)))
      · have c16 := b2i_f c16
        refine lv_iconst (v := 1) hx hb dX8_stamp_19 (by decide) ?_
        refine lv_goto (tgt := 39) hx hb dX8_stamp_20 (by decide) ?_
        exact hJ _ ((if_pos c9).trans ((if_neg c16).trans rfl))
theorem hd_X8_back : yX8_back.cls ≠ "java/lang/invoke/MethodHandle" ∧ yX8_back.cls ≠ "java/lang/invoke/VarHandle" ∧ (parseMethodDescriptor yX8_back.desc).map (fun d => d.parameters.length) = some 1 := by decide +kernel
def sX8_back (M : MS) (p1 : Int32) : Int32 × MS := (if (refB (if (sX8_hasPrint (M.1.2 1) p1) = true then (if (sX8_isOut (M.1.2 1) p1) = true then (0 : Int32) else (2 : Int32)) else (1 : Int32))) = true then (0, (msS M 0 (if (sX8_hasPrint (M.1.2 1) p1) = true then (if (sX8_isOut (M.1.2 1) p1) = true then (0 : Int32) else (2 : Int32)) else (1 : Int32)))) else (((sX8_goBack (((sX8_remember (msS M 0 (if (sX8_hasPrint (M.1.2 1) p1) = true then (if (sX8_isOut (M.1.2 1) p1) = true then (0 : Int32) else (2 : Int32)) else (1 : Int32))))).1.2 1) p1)).1, (msA ((sX8_remember (msS M 0 (if (sX8_hasPrint (M.1.2 1) p1) = true then (if (sX8_isOut (M.1.2 1) p1) = true then (0 : Int32) else (2 : Int32)) else (1 : Int32))))) 1 (((sX8_goBack (((sX8_remember (msS M 0 (if (sX8_hasPrint (M.1.2 1) p1) = true then (if (sX8_isOut (M.1.2 1) p1) = true then (0 : Int32) else (2 : Int32)) else (1 : Int32))))).1.2 1) p1)).2))))
set_option maxHeartbeats 4000000 in
set_option maxRecDepth 100000 in
theorem c_X8_back (l : Launch) (D : va_G) (cs : Nat → ClassId) (w : Nat → Nat) (M : MS) (p1 : Int32) (hd : mD w) (hv0 : MV (M.1.2 1)) (h0 : vp_in (M.1.1 1) 15) : Met l yX8_back (wc yX8_back cX8_back 2 (some .int)) ({ frames := 4, cells := 0, slots := 0, locals := 86 } : Room) (va_Pc [.ref (w 0), .int p1] (PE D cs (mW cs w M))) (va_Qi (fun (r9 : Int32) (u : MS) => r9 = (sX8_back M p1).1 ∧ u = (sX8_back M p1).2) (fun u t => va_P D vwC (mW cs w u) t.heap) (mA w)) 0 0 (mA w) := by
  obtain ⟨v, hv⟩ : ∃ v, sX8_back M p1 = v := ⟨_, rfl⟩
  rw [hv]
  refine met_o (lv := [(0, .ref (w 0)), (1, .int p1)]) (by decide) (Nat.le_of_ble_eq_true rfl) rfl ?_
  intro p e s m args below meth c ls hx hb hr hml hts hown hlocks hin hP hE hl
  have hown : s.vm.findClass RX8 = some m.cls := hown
  have hK := hE.1
  have hP : va_P D vwC (mW cs w M) s.heap := hP
  have hS : va_S (mA w) s.heap s.heap [] := va_S.rf
  unfold sX8_back at hv
  refine lv_aload_n hx hb dX8_back_0 rfl (lv_at hl 0 rfl) ?_
  refine lv_aload_n hx hb dX8_back_1 rfl (lv_at hl 0 rfl) ?_
  refine va_get (D := D) (ci := 8) (v := .ref (w 1)) (C := RX8) (T := TX8) (N := 14) hx hb hts iw_X8 hown hK hP 0 rfl rfl 1 (by decide) (hts _ w_fl_X8_7) (fun _ h9 => h9) rfl dX8_back_2 ?_
  refine lv_iload_n hx hb dX8_back_5 rfl (lv_at hl 1 rfl) ?_
  refine ro_i (b2i (sX8_hasPrint (M.1.2 1) p1)) (run_c (va_runS (As := [.ref (w 1), .int p1]) (rest := [.ref (w 0)]) ⟨hx, hb, hml, hown, hts⟩ (c_X8_hasPrint l D cs (w 1) (M.1.2 1) p1) (cwS 2 hts (good_S w_ml_X8_178 w_st_X8_hasPrint w_in_X8 w_co_X8_hasPrint) rfl rfl rfl ⟨rfl, hd_X8_hasPrint⟩ ⟨Nat.le_of_ble_eq_true rfl, Nat.le_of_ble_eq_true rfl⟩) (pe_S (hP.sub (ws' := rowW cs (w 1) (M.1.2 1)) [1] rfl) hE) rfl rfl hl.1 rfl (lv_room (Nat.le_of_ble_eq_true rfl)) dX8_back_6 ⟨Nat.zero_le _, Nat.zero_le _⟩)) ?_
  refine join_i (J := 32) (ls := ls) (rest := [.ref (w 0)]) ((if (sX8_hasPrint (M.1.2 1) p1) = true then (if (sX8_isOut (M.1.2 1) p1) = true then (0 : Int32) else (2 : Int32)) else (1 : Int32))) ?_ (fun hJ => ?_)
  · refine w_b (refB (if (sX8_hasPrint (M.1.2 1) p1) = true then (if (sX8_isOut (M.1.2 1) p1) = true then (0 : Int32) else (2 : Int32)) else (1 : Int32)), (msS M 0 (if (sX8_hasPrint (M.1.2 1) p1) = true then (if (sX8_isOut (M.1.2 1) p1) = true then (0 : Int32) else (2 : Int32)) else (1 : Int32)))) (va_runV (As := [.int (if (sX8_hasPrint (M.1.2 1) p1) = true then (if (sX8_isOut (M.1.2 1) p1) = true then (0 : Int32) else (2 : Int32)) else (1 : Int32))]) (rest := []) ⟨hx, hb, hml, hown, hts⟩ (c_X8_refused l D cs w M (if (sX8_hasPrint (M.1.2 1) p1) = true then (if (sX8_isOut (M.1.2 1) p1) = true then (0 : Int32) else (2 : Int32)) else (1 : Int32)) hd) (cwV 1 hts (good_V w_ml_X8_105 w_im_X8_refused w_se_X8_refused w_in_X8 w_co_X8_refused) rfl rfl rfl ⟨rfl, hd_X8_refused⟩ ⟨Nat.le_of_ble_eq_true rfl, Nat.le_of_ble_eq_true rfl⟩) (pe_W (C := RX8) (T := TX8) (N := 14) (ci := 8) (q0 := 0) hP hE rfl rfl) rfl rfl hl.1 rfl (lv_room (Nat.le_of_ble_eq_true rfl)) dX8_back_32 ⟨Nat.zero_le _, Nat.zero_le _⟩) hS (fun _ _ h => h) (fun _ h => h) (fun t locs hB hz hk hS => ?_)
    have hP : va_P D vwC (mW cs w (msS M 0 (if (sX8_hasPrint (M.1.2 1) p1) = true then (if (sX8_isOut (M.1.2 1) p1) = true then (0 : Int32) else (2 : Int32)) else (1 : Int32)))) t.heap := hB
    refine lv_if_eq (tgt := 40) hx hb dX8_back_35 (by decide) (fun c35 => ?_) (fun c35 => ?_)
    · have c35 := b2i_f c35
      have hv := (if_neg c35).symm.trans hv
      have f1 := ift (by decide) (rf0 c35)
      have f2 := hasP_t hv0.2.1.1 f1.1
      refine lv_aload_n hx hb dX8_back_40 rfl (lv_at hl 0 rfl) ?_
      obtain ⟨G41, hG41⟩ : ∃ G, sX8_remember (msS M 0 (if (sX8_hasPrint (M.1.2 1) p1) = true then (if (sX8_isOut (M.1.2 1) p1) = true then (0 : Int32) else (2 : Int32)) else (1 : Int32))) = G := ⟨_, rfl⟩
      have k41 := (c_X8_remember l D cs w (msS M 0 (if (sX8_hasPrint (M.1.2 1) p1) = true then (if (sX8_isOut (M.1.2 1) p1) = true then (0 : Int32) else (2 : Int32)) else (1 : Int32))) hd h0)
      rw [hG41] at k41
      rw [hG41] at hv
      refine w_v (G41) (va_runV (As := []) (rest := []) ⟨hx, hb, hml, hown, hts⟩ k41 (cwV 0 hts (good_V w_ml_X8_248 w_im_X8_remember w_se_X8_remember w_in_X8 w_co_X8_remember) rfl rfl rfl ⟨rfl, hd_X8_remember⟩ ⟨Nat.le_of_ble_eq_true rfl, Nat.le_of_ble_eq_true rfl⟩) (pe_W (C := RX8) (T := TX8) (N := 14) (ci := 8) (q0 := 0) hP hE rfl rfl) rfl rfl hl.1 rfl (lv_room (Nat.le_of_ble_eq_true rfl)) dX8_back_41 ⟨Nat.zero_le _, Nat.zero_le _⟩) hS (fun _ _ h => h) (fun _ h => h) (fun t locs hB hz hk hS => ?_)
      have hP : va_P D vwC (mW cs w (G41)) t.heap := hB
      have g1 : G41.1.2 1 = M.1.2 1 := by rw [← hG41, rem_now]; rfl
      refine lv_aload_n hx hb dX8_back_44 rfl (lv_at hl 0 rfl) ?_
      refine va_get (D := D) (ci := 8) (v := .ref (w 1)) (C := RX8) (T := TX8) (N := 14) hx hb hts iw_X8 hown hK hP 0 rfl rfl 1 (by decide) (hts _ w_fl_X8_7) (fun _ h9 => h9) rfl dX8_back_45 ?_
      refine lv_iload_n hx hb dX8_back_48 rfl (lv_at hl 1 rfl) ?_
      obtain ⟨G49, hG49⟩ : ∃ G, sX8_goBack ((G41).1.2 1) p1 = G := ⟨_, rfl⟩
      have k49 := (c_X8_goBack l D cs (w 1) ((G41).1.2 1) p1 (f2.v hv0))
      rw [hG49] at k49
      rw [hG49] at hv
      refine w_i (G49) (va_runS (As := [.ref (w 1), .int p1]) (rest := []) ⟨hx, hb, hml, hown, hts⟩ k49 (cwS 2 hts (good_S w_ml_X8_263 w_st_X8_goBack w_in_X8 w_co_X8_goBack) rfl rfl rfl ⟨rfl, hd_X8_goBack⟩ ⟨Nat.le_of_ble_eq_true rfl, Nat.le_of_ble_eq_true rfl⟩) (pe_S (hP.sub (ws' := rowW cs (w 1) ((G41).1.2 1)) [1] rfl) hE) rfl rfl hl.1 rfl (lv_room (Nat.le_of_ble_eq_true rfl)) dX8_back_49 ⟨Nat.zero_le _, Nat.zero_le _⟩) hS (fun _ _ h => ⟨1, by decide, h⟩) (fun _ h => ⟨1, by decide, h⟩) (fun t locs hB hz hk hS => ?_)
      have hP : va_P D vwC (mW cs w (msA (G41) 1 ((G49).2))) t.heap := m_up1 hd hP hk hB
      exact W.iret (v := (G49).1) hx hb hr (fun t ht hW => ⟨⟨(G49).1, (msA (G41) 1 ((G49).2)), rfl, pair_eq hv, pw ht hP⟩, hS.F ht⟩) hS.2.2 dX8_back_52 (hlocks := hlocks)
    · have c35 := b2i_t c35
      have hv := (if_pos c35).symm.trans hv
      refine lv_iconst (v := 0) hx hb dX8_back_38 (by decide) ?_
      exact W.iret (v := 0) hx hb hr (fun t ht hW => ⟨⟨0, (msS M 0 (if (sX8_hasPrint (M.1.2 1) p1) = true then (if (sX8_isOut (M.1.2 1) p1) = true then (0 : Int32) else (2 : Int32)) else (1 : Int32))), rfl, pair_eq hv, pw ht hP⟩, hS.F ht⟩) hS.2.2 dX8_back_39 (hlocks := hlocks)
  · refine lv_if_ne (tgt := 16) hx hb dX8_back_9 (by decide) (fun c9 => ?_) (fun c9 => ?_)
    · have c9 := b2i_t c9
      refine lv_aload_n hx hb dX8_back_16 rfl (lv_at hl 0 rfl) ?_
      refine va_get (D := D) (ci := 8) (v := .ref (w 1)) (C := RX8) (T := TX8) (N := 14) hx hb hts iw_X8 hown hK hP 0 rfl rfl 1 (by decide) (hts _ w_fl_X8_7) (fun _ h9 => h9) rfl dX8_back_17 ?_
      refine lv_iload_n hx hb dX8_back_20 rfl (lv_at hl 1 rfl) ?_
      refine ro_i (b2i (sX8_isOut (M.1.2 1) p1)) (run_c (va_runS (As := [.ref (w 1), .int p1]) (rest := [.ref (w 0)]) ⟨hx, hb, hml, hown, hts⟩ (c_X8_isOut l D cs (w 1) (M.1.2 1) p1) (cwS 2 hts (good_S w_ml_X8_70 w_st_X8_isOut w_in_X8 w_co_X8_isOut) rfl rfl rfl ⟨rfl, hd_X8_isOut⟩ ⟨Nat.le_of_ble_eq_true rfl, Nat.le_of_ble_eq_true rfl⟩) (pe_S (hP.sub (ws' := rowW cs (w 1) (M.1.2 1)) [1] rfl) hE) rfl rfl hl.1 rfl (lv_room (Nat.le_of_ble_eq_true rfl)) dX8_back_21 ⟨Nat.zero_le _, Nat.zero_le _⟩)) ?_
      refine lv_if_ne (tgt := 31) hx hb dX8_back_24 (by decide) (fun c24 => ?_) (fun c24 => ?_)
      · have c24 := b2i_t c24
        refine lv_iconst (v := 0) hx hb dX8_back_31 (by decide) ?_
        exact hJ _ ((if_pos c9).trans ((if_pos c24).trans rfl))
      · have c24 := b2i_f c24
        refine lv_iconst (v := 2) hx hb dX8_back_27 (by decide) ?_
        refine lv_goto (tgt := 32) hx hb dX8_back_28 (by decide) ?_
        exact hJ _ ((if_pos c9).trans ((if_neg c24).trans rfl))
    · have c9 := b2i_f c9
      refine lv_iconst (v := 1) hx hb dX8_back_12 (by decide) ?_
      refine lv_goto (tgt := 32) hx hb dX8_back_13 (by decide) ?_
      exact hJ _ ((if_neg c9).trans rfl)
theorem hd_X8_build : yX8_build.cls ≠ "java/lang/invoke/MethodHandle" ∧ yX8_build.cls ≠ "java/lang/invoke/VarHandle" ∧ (parseMethodDescriptor yX8_build.desc).map (fun d => d.parameters.length) = some 2 := by decide +kernel
def sX8_build (M : MS) (p1 : Int32) (p2 : Int32) : Int32 × MS := (if (refB (if (sX8_hasPrint (M.1.2 1) p1) = true then (if (sX8_isField p2) = true then (if (sX8_canBuild (M.1.2 1) p1) = true then (0 : Int32) else (2 : Int32)) else (1 : Int32)) else (1 : Int32))) = true then (0, (msS M 0 (if (sX8_hasPrint (M.1.2 1) p1) = true then (if (sX8_isField p2) = true then (if (sX8_canBuild (M.1.2 1) p1) = true then (0 : Int32) else (2 : Int32)) else (1 : Int32)) else (1 : Int32)))) else (((sX8_goBuild (((sX8_remember (msS M 0 (if (sX8_hasPrint (M.1.2 1) p1) = true then (if (sX8_isField p2) = true then (if (sX8_canBuild (M.1.2 1) p1) = true then (0 : Int32) else (2 : Int32)) else (1 : Int32)) else (1 : Int32))))).1.2 1) p1 p2)).1, (msA ((sX8_remember (msS M 0 (if (sX8_hasPrint (M.1.2 1) p1) = true then (if (sX8_isField p2) = true then (if (sX8_canBuild (M.1.2 1) p1) = true then (0 : Int32) else (2 : Int32)) else (1 : Int32)) else (1 : Int32))))) 1 (((sX8_goBuild (((sX8_remember (msS M 0 (if (sX8_hasPrint (M.1.2 1) p1) = true then (if (sX8_isField p2) = true then (if (sX8_canBuild (M.1.2 1) p1) = true then (0 : Int32) else (2 : Int32)) else (1 : Int32)) else (1 : Int32))))).1.2 1) p1 p2)).2))))
set_option maxHeartbeats 4000000 in
set_option maxRecDepth 100000 in
theorem c_X8_build (l : Launch) (D : va_G) (cs : Nat → ClassId) (w : Nat → Nat) (M : MS) (p1 : Int32) (p2 : Int32) (hd : mD w) (hv0 : MV (M.1.2 1)) (h0 : vp_in (M.1.1 1) 15) : Met l yX8_build (wc yX8_build cX8_build 3 (some .int)) ({ frames := 4, cells := 0, slots := 0, locals := 84 } : Room) (va_Pc [.ref (w 0), .int p1, .int p2] (PE D cs (mW cs w M))) (va_Qi (fun (r9 : Int32) (u : MS) => r9 = (sX8_build M p1 p2).1 ∧ u = (sX8_build M p1 p2).2) (fun u t => va_P D vwC (mW cs w u) t.heap) (mA w)) 0 0 (mA w) := by
  obtain ⟨v, hv⟩ : ∃ v, sX8_build M p1 p2 = v := ⟨_, rfl⟩
  rw [hv]
  refine met_o (lv := [(0, .ref (w 0)), (1, .int p1), (2, .int p2)]) (by decide) (Nat.le_of_ble_eq_true rfl) rfl ?_
  intro p e s m args below meth c ls hx hb hr hml hts hown hlocks hin hP hE hl
  have hown : s.vm.findClass RX8 = some m.cls := hown
  have hK := hE.1
  have hP : va_P D vwC (mW cs w M) s.heap := hP
  have hS : va_S (mA w) s.heap s.heap [] := va_S.rf
  unfold sX8_build at hv
  refine lv_aload_n hx hb dX8_build_0 rfl (lv_at hl 0 rfl) ?_
  refine lv_aload_n hx hb dX8_build_1 rfl (lv_at hl 0 rfl) ?_
  refine va_get (D := D) (ci := 8) (v := .ref (w 1)) (C := RX8) (T := TX8) (N := 14) hx hb hts iw_X8 hown hK hP 0 rfl rfl 1 (by decide) (hts _ w_fl_X8_7) (fun _ h9 => h9) rfl dX8_build_2 ?_
  refine lv_iload_n hx hb dX8_build_5 rfl (lv_at hl 1 rfl) ?_
  refine ro_i (b2i (sX8_hasPrint (M.1.2 1) p1)) (run_c (va_runS (As := [.ref (w 1), .int p1]) (rest := [.ref (w 0)]) ⟨hx, hb, hml, hown, hts⟩ (c_X8_hasPrint l D cs (w 1) (M.1.2 1) p1) (cwS 2 hts (good_S w_ml_X8_178 w_st_X8_hasPrint w_in_X8 w_co_X8_hasPrint) rfl rfl rfl ⟨rfl, hd_X8_hasPrint⟩ ⟨Nat.le_of_ble_eq_true rfl, Nat.le_of_ble_eq_true rfl⟩) (pe_S (hP.sub (ws' := rowW cs (w 1) (M.1.2 1)) [1] rfl) hE) rfl rfl hl.1 rfl (lv_room (Nat.le_of_ble_eq_true rfl)) dX8_build_6 ⟨Nat.zero_le _, Nat.zero_le _⟩)) ?_
  refine join_i (J := 39) (ls := ls) (rest := [.ref (w 0)]) ((if (sX8_hasPrint (M.1.2 1) p1) = true then (if (sX8_isField p2) = true then (if (sX8_canBuild (M.1.2 1) p1) = true then (0 : Int32) else (2 : Int32)) else (1 : Int32)) else (1 : Int32))) ?_ (fun hJ => ?_)
  · refine w_b (refB (if (sX8_hasPrint (M.1.2 1) p1) = true then (if (sX8_isField p2) = true then (if (sX8_canBuild (M.1.2 1) p1) = true then (0 : Int32) else (2 : Int32)) else (1 : Int32)) else (1 : Int32)), (msS M 0 (if (sX8_hasPrint (M.1.2 1) p1) = true then (if (sX8_isField p2) = true then (if (sX8_canBuild (M.1.2 1) p1) = true then (0 : Int32) else (2 : Int32)) else (1 : Int32)) else (1 : Int32)))) (va_runV (As := [.int (if (sX8_hasPrint (M.1.2 1) p1) = true then (if (sX8_isField p2) = true then (if (sX8_canBuild (M.1.2 1) p1) = true then (0 : Int32) else (2 : Int32)) else (1 : Int32)) else (1 : Int32))]) (rest := []) ⟨hx, hb, hml, hown, hts⟩ (c_X8_refused l D cs w M (if (sX8_hasPrint (M.1.2 1) p1) = true then (if (sX8_isField p2) = true then (if (sX8_canBuild (M.1.2 1) p1) = true then (0 : Int32) else (2 : Int32)) else (1 : Int32)) else (1 : Int32)) hd) (cwV 1 hts (good_V w_ml_X8_105 w_im_X8_refused w_se_X8_refused w_in_X8 w_co_X8_refused) rfl rfl rfl ⟨rfl, hd_X8_refused⟩ ⟨Nat.le_of_ble_eq_true rfl, Nat.le_of_ble_eq_true rfl⟩) (pe_W (C := RX8) (T := TX8) (N := 14) (ci := 8) (q0 := 0) hP hE rfl rfl) rfl rfl hl.1 rfl (lv_room (Nat.le_of_ble_eq_true rfl)) dX8_build_39 ⟨Nat.zero_le _, Nat.zero_le _⟩) hS (fun _ _ h => h) (fun _ h => h) (fun t locs hB hz hk hS => ?_)
    have hP : va_P D vwC (mW cs w (msS M 0 (if (sX8_hasPrint (M.1.2 1) p1) = true then (if (sX8_isField p2) = true then (if (sX8_canBuild (M.1.2 1) p1) = true then (0 : Int32) else (2 : Int32)) else (1 : Int32)) else (1 : Int32)))) t.heap := hB
    refine lv_if_eq (tgt := 47) hx hb dX8_build_42 (by decide) (fun c42 => ?_) (fun c42 => ?_)
    · have c42 := b2i_f c42
      have hv := (if_neg c42).symm.trans hv
      have f1 := ift (by decide) (rf0 c42)
      have f2 := hasP_t hv0.2.1.1 f1.1
      have f3 := ift (by decide) f1.2
      have f4 := ift (by decide) f3.2
      have f5 := cb_in hv0 f4.1
      refine lv_aload_n hx hb dX8_build_47 rfl (lv_at hl 0 rfl) ?_
      obtain ⟨G48, hG48⟩ : ∃ G, sX8_remember (msS M 0 (if (sX8_hasPrint (M.1.2 1) p1) = true then (if (sX8_isField p2) = true then (if (sX8_canBuild (M.1.2 1) p1) = true then (0 : Int32) else (2 : Int32)) else (1 : Int32)) else (1 : Int32))) = G := ⟨_, rfl⟩
      have k48 := (c_X8_remember l D cs w (msS M 0 (if (sX8_hasPrint (M.1.2 1) p1) = true then (if (sX8_isField p2) = true then (if (sX8_canBuild (M.1.2 1) p1) = true then (0 : Int32) else (2 : Int32)) else (1 : Int32)) else (1 : Int32))) hd h0)
      rw [hG48] at k48
      rw [hG48] at hv
      refine w_v (G48) (va_runV (As := []) (rest := []) ⟨hx, hb, hml, hown, hts⟩ k48 (cwV 0 hts (good_V w_ml_X8_248 w_im_X8_remember w_se_X8_remember w_in_X8 w_co_X8_remember) rfl rfl rfl ⟨rfl, hd_X8_remember⟩ ⟨Nat.le_of_ble_eq_true rfl, Nat.le_of_ble_eq_true rfl⟩) (pe_W (C := RX8) (T := TX8) (N := 14) (ci := 8) (q0 := 0) hP hE rfl rfl) rfl rfl hl.1 rfl (lv_room (Nat.le_of_ble_eq_true rfl)) dX8_build_48 ⟨Nat.zero_le _, Nat.zero_le _⟩) hS (fun _ _ h => h) (fun _ h => h) (fun t locs hB hz hk hS => ?_)
      have hP : va_P D vwC (mW cs w (G48)) t.heap := hB
      have g1 : G48.1.2 1 = M.1.2 1 := by rw [← hG48, rem_now]; rfl
      refine lv_aload_n hx hb dX8_build_51 rfl (lv_at hl 0 rfl) ?_
      refine va_get (D := D) (ci := 8) (v := .ref (w 1)) (C := RX8) (T := TX8) (N := 14) hx hb hts iw_X8 hown hK hP 0 rfl rfl 1 (by decide) (hts _ w_fl_X8_7) (fun _ h9 => h9) rfl dX8_build_52 ?_
      refine lv_iload_n hx hb dX8_build_55 rfl (lv_at hl 1 rfl) ?_
      refine lv_iload_n hx hb dX8_build_56 rfl (lv_at hl 2 rfl) ?_
      obtain ⟨G57, hG57⟩ : ∃ G, sX8_goBuild ((G48).1.2 1) p1 p2 = G := ⟨_, rfl⟩
      have k57 := (c_X8_goBuild l D cs (w 1) ((G48).1.2 1) p1 p2 (by rw [g1]; exact f5) (f2.v hv0))
      rw [hG57] at k57
      rw [hG57] at hv
      refine w_i (G57) (va_runS (As := [.ref (w 1), .int p1, .int p2]) (rest := []) ⟨hx, hb, hml, hown, hts⟩ k57 (cwS 3 hts (good_S w_ml_X8_269 w_st_X8_goBuild w_in_X8 w_co_X8_goBuild) rfl rfl rfl ⟨rfl, hd_X8_goBuild⟩ ⟨Nat.le_of_ble_eq_true rfl, Nat.le_of_ble_eq_true rfl⟩) (pe_S (hP.sub (ws' := rowW cs (w 1) ((G48).1.2 1)) [1] rfl) hE) rfl rfl hl.1 rfl (lv_room (Nat.le_of_ble_eq_true rfl)) dX8_build_57 ⟨Nat.zero_le _, Nat.zero_le _⟩) hS (fun _ _ h => ⟨1, by decide, h⟩) (fun _ h => ⟨1, by decide, h⟩) (fun t locs hB hz hk hS => ?_)
      have hP : va_P D vwC (mW cs w (msA (G48) 1 ((G57).2))) t.heap := m_up1 hd hP hk hB
      exact W.iret (v := (G57).1) hx hb hr (fun t ht hW => ⟨⟨(G57).1, (msA (G48) 1 ((G57).2)), rfl, pair_eq hv, pw ht hP⟩, hS.F ht⟩) hS.2.2 dX8_build_60 (hlocks := hlocks)
    · have c42 := b2i_t c42
      have hv := (if_pos c42).symm.trans hv
      refine lv_iconst (v := 0) hx hb dX8_build_45 (by decide) ?_
      exact W.iret (v := 0) hx hb hr (fun t ht hW => ⟨⟨0, (msS M 0 (if (sX8_hasPrint (M.1.2 1) p1) = true then (if (sX8_isField p2) = true then (if (sX8_canBuild (M.1.2 1) p1) = true then (0 : Int32) else (2 : Int32)) else (1 : Int32)) else (1 : Int32))), rfl, pair_eq hv, pw ht hP⟩, hS.F ht⟩) hS.2.2 dX8_build_46 (hlocks := hlocks)
  · refine lv_if_eq (tgt := 19) hx hb dX8_build_9 (by decide) (fun c9 => ?_) (fun c9 => ?_)
    · have c9 := b2i_f c9
      refine lv_iconst (v := 1) hx hb dX8_build_19 (by decide) ?_
      refine lv_goto (tgt := 39) hx hb dX8_build_20 (by decide) ?_
      exact hJ _ ((if_neg c9).trans rfl)
    · have c9 := b2i_t c9
      refine lv_iload_n hx hb dX8_build_12 rfl (lv_at hl 2 rfl) ?_
      refine ro_i (b2i (sX8_isField p2)) (run_c (va_runS (As := [.int p2]) (rest := [.ref (w 0)]) ⟨hx, hb, hml, hown, hts⟩ (c_X8_isField l D cs p2) (cwS 1 hts (good_S w_ml_X8_232 w_st_X8_isField w_in_X8 w_co_X8_isField) rfl rfl rfl ⟨rfl, hd_X8_isField⟩ ⟨Nat.le_of_ble_eq_true rfl, Nat.le_of_ble_eq_true rfl⟩) (pe_S (p_nil D _) hE) rfl rfl hl.1 rfl (lv_room (Nat.le_of_ble_eq_true rfl)) dX8_build_13 ⟨Nat.zero_le _, Nat.zero_le _⟩)) ?_
      refine lv_if_ne (tgt := 23) hx hb dX8_build_16 (by decide) (fun c16 => ?_) (fun c16 => ?_)
      · have c16 := b2i_t c16
        refine lv_aload_n hx hb dX8_build_23 rfl (lv_at hl 0 rfl) ?_
        refine va_get (D := D) (ci := 8) (v := .ref (w 1)) (C := RX8) (T := TX8) (N := 14) hx hb hts iw_X8 hown hK hP 0 rfl rfl 1 (by decide) (hts _ w_fl_X8_7) (fun _ h9 => h9) rfl dX8_build_24 ?_
        refine lv_iload_n hx hb dX8_build_27 rfl (lv_at hl 1 rfl) ?_
        refine ro_i (b2i (sX8_canBuild (M.1.2 1) p1)) (run_c (va_runS (As := [.ref (w 1), .int p1]) (rest := [.ref (w 0)]) ⟨hx, hb, hml, hown, hts⟩ (c_X8_canBuild l D cs (w 1) (M.1.2 1) p1 ((hasP_t hv0.2.1.1 c9).v hv0)) (cwS 2 hts (good_S w_ml_X8_266 w_st_X8_canBuild w_in_X8 w_co_X8_canBuild) rfl rfl rfl ⟨rfl, hd_X8_canBuild⟩ ⟨Nat.le_of_ble_eq_true rfl, Nat.le_of_ble_eq_true rfl⟩) (pe_S (hP.sub (ws' := rowW cs (w 1) (M.1.2 1)) [1] rfl) hE) rfl rfl hl.1 rfl (lv_room (Nat.le_of_ble_eq_true rfl)) dX8_build_28 ⟨Nat.zero_le _, Nat.zero_le _⟩)) ?_
        refine lv_if_ne (tgt := 38) hx hb dX8_build_31 (by decide) (fun c31 => ?_) (fun c31 => ?_)
        · have c31 := b2i_t c31
          refine lv_iconst (v := 0) hx hb dX8_build_38 (by decide) ?_
          exact hJ _ ((if_pos c9).trans ((if_pos c16).trans ((if_pos c31).trans rfl)))
        · have c31 := b2i_f c31
          refine lv_iconst (v := 2) hx hb dX8_build_34 (by decide) ?_
          refine lv_goto (tgt := 39) hx hb dX8_build_35 (by decide) ?_
          exact hJ _ ((if_pos c9).trans ((if_pos c16).trans ((if_neg c31).trans rfl)))
      · have c16 := b2i_f c16
        refine lv_iconst (v := 1) hx hb dX8_build_19 (by decide) ?_
        refine lv_goto (tgt := 39) hx hb dX8_build_20 (by decide) ?_
        exact hJ _ ((if_pos c9).trans ((if_neg c16).trans rfl))
theorem hd_X8_mend : yX8_mend.cls ≠ "java/lang/invoke/MethodHandle" ∧ yX8_mend.cls ≠ "java/lang/invoke/VarHandle" ∧ (parseMethodDescriptor yX8_mend.desc).map (fun d => d.parameters.length) = some 1 := by decide +kernel
def sX8_mend (M : MS) (p1 : Int32) : Int32 × MS := (if (refB (if (sX8_hasWork (M.1.2 1) p1) = true then (if (sX8_isWrong (M.1.2 1) p1) = true then (0 : Int32) else (2 : Int32)) else (1 : Int32))) = true then (0, (msS M 0 (if (sX8_hasWork (M.1.2 1) p1) = true then (if (sX8_isWrong (M.1.2 1) p1) = true then (0 : Int32) else (2 : Int32)) else (1 : Int32)))) else (((sX8_goMend (((sX8_remember (msS M 0 (if (sX8_hasWork (M.1.2 1) p1) = true then (if (sX8_isWrong (M.1.2 1) p1) = true then (0 : Int32) else (2 : Int32)) else (1 : Int32))))).1.2 1) p1)).1, (msA ((sX8_remember (msS M 0 (if (sX8_hasWork (M.1.2 1) p1) = true then (if (sX8_isWrong (M.1.2 1) p1) = true then (0 : Int32) else (2 : Int32)) else (1 : Int32))))) 1 (((sX8_goMend (((sX8_remember (msS M 0 (if (sX8_hasWork (M.1.2 1) p1) = true then (if (sX8_isWrong (M.1.2 1) p1) = true then (0 : Int32) else (2 : Int32)) else (1 : Int32))))).1.2 1) p1)).2))))
set_option maxHeartbeats 4000000 in
set_option maxRecDepth 100000 in
theorem c_X8_mend (l : Launch) (D : va_G) (cs : Nat → ClassId) (w : Nat → Nat) (M : MS) (p1 : Int32) (hd : mD w) (hv0 : MV (M.1.2 1)) (h0 : vp_in (M.1.1 1) 15) : Met l yX8_mend (wc yX8_mend cX8_mend 2 (some .int)) ({ frames := 3, cells := 0, slots := 0, locals := 64 } : Room) (va_Pc [.ref (w 0), .int p1] (PE D cs (mW cs w M))) (va_Qi (fun (r9 : Int32) (u : MS) => r9 = (sX8_mend M p1).1 ∧ u = (sX8_mend M p1).2) (fun u t => va_P D vwC (mW cs w u) t.heap) (mA w)) 0 0 (mA w) := by
  obtain ⟨v, hv⟩ : ∃ v, sX8_mend M p1 = v := ⟨_, rfl⟩
  rw [hv]
  refine met_o (lv := [(0, .ref (w 0)), (1, .int p1)]) (by decide) (Nat.le_of_ble_eq_true rfl) rfl ?_
  intro p e s m args below meth c ls hx hb hr hml hts hown hlocks hin hP hE hl
  have hown : s.vm.findClass RX8 = some m.cls := hown
  have hK := hE.1
  have hP : va_P D vwC (mW cs w M) s.heap := hP
  have hS : va_S (mA w) s.heap s.heap [] := va_S.rf
  unfold sX8_mend at hv
  refine lv_aload_n hx hb dX8_mend_0 rfl (lv_at hl 0 rfl) ?_
  refine lv_aload_n hx hb dX8_mend_1 rfl (lv_at hl 0 rfl) ?_
  refine va_get (D := D) (ci := 8) (v := .ref (w 1)) (C := RX8) (T := TX8) (N := 14) hx hb hts iw_X8 hown hK hP 0 rfl rfl 1 (by decide) (hts _ w_fl_X8_7) (fun _ h9 => h9) rfl dX8_mend_2 ?_
  refine lv_iload_n hx hb dX8_mend_5 rfl (lv_at hl 1 rfl) ?_
  refine ro_i (b2i (sX8_hasWork (M.1.2 1) p1)) (run_c (va_runS (As := [.ref (w 1), .int p1]) (rest := [.ref (w 0)]) ⟨hx, hb, hml, hown, hts⟩ (c_X8_hasWork l D cs (w 1) (M.1.2 1) p1) (cwS 2 hts (good_S w_ml_X8_243 w_st_X8_hasWork w_in_X8 w_co_X8_hasWork) rfl rfl rfl ⟨rfl, hd_X8_hasWork⟩ ⟨Nat.le_of_ble_eq_true rfl, Nat.le_of_ble_eq_true rfl⟩) (pe_S (hP.sub (ws' := rowW cs (w 1) (M.1.2 1)) [1] rfl) hE) rfl rfl hl.1 rfl (lv_room (Nat.le_of_ble_eq_true rfl)) dX8_mend_6 ⟨Nat.zero_le _, Nat.zero_le _⟩)) ?_
  refine join_i (J := 32) (ls := ls) (rest := [.ref (w 0)]) ((if (sX8_hasWork (M.1.2 1) p1) = true then (if (sX8_isWrong (M.1.2 1) p1) = true then (0 : Int32) else (2 : Int32)) else (1 : Int32))) ?_ (fun hJ => ?_)
  · refine w_b (refB (if (sX8_hasWork (M.1.2 1) p1) = true then (if (sX8_isWrong (M.1.2 1) p1) = true then (0 : Int32) else (2 : Int32)) else (1 : Int32)), (msS M 0 (if (sX8_hasWork (M.1.2 1) p1) = true then (if (sX8_isWrong (M.1.2 1) p1) = true then (0 : Int32) else (2 : Int32)) else (1 : Int32)))) (va_runV (As := [.int (if (sX8_hasWork (M.1.2 1) p1) = true then (if (sX8_isWrong (M.1.2 1) p1) = true then (0 : Int32) else (2 : Int32)) else (1 : Int32))]) (rest := []) ⟨hx, hb, hml, hown, hts⟩ (c_X8_refused l D cs w M (if (sX8_hasWork (M.1.2 1) p1) = true then (if (sX8_isWrong (M.1.2 1) p1) = true then (0 : Int32) else (2 : Int32)) else (1 : Int32)) hd) (cwV 1 hts (good_V w_ml_X8_105 w_im_X8_refused w_se_X8_refused w_in_X8 w_co_X8_refused) rfl rfl rfl ⟨rfl, hd_X8_refused⟩ ⟨Nat.le_of_ble_eq_true rfl, Nat.le_of_ble_eq_true rfl⟩) (pe_W (C := RX8) (T := TX8) (N := 14) (ci := 8) (q0 := 0) hP hE rfl rfl) rfl rfl hl.1 rfl (lv_room (Nat.le_of_ble_eq_true rfl)) dX8_mend_32 ⟨Nat.zero_le _, Nat.zero_le _⟩) hS (fun _ _ h => h) (fun _ h => h) (fun t locs hB hz hk hS => ?_)
    have hP : va_P D vwC (mW cs w (msS M 0 (if (sX8_hasWork (M.1.2 1) p1) = true then (if (sX8_isWrong (M.1.2 1) p1) = true then (0 : Int32) else (2 : Int32)) else (1 : Int32)))) t.heap := hB
    refine lv_if_eq (tgt := 40) hx hb dX8_mend_35 (by decide) (fun c35 => ?_) (fun c35 => ?_)
    · have c35 := b2i_f c35
      have hv := (if_neg c35).symm.trans hv
      have f1 := ift (by decide) (rf0 c35)
      have f2 := hasW_t hv0.2.2.1.1 f1.1
      refine lv_aload_n hx hb dX8_mend_40 rfl (lv_at hl 0 rfl) ?_
      obtain ⟨G41, hG41⟩ : ∃ G, sX8_remember (msS M 0 (if (sX8_hasWork (M.1.2 1) p1) = true then (if (sX8_isWrong (M.1.2 1) p1) = true then (0 : Int32) else (2 : Int32)) else (1 : Int32))) = G := ⟨_, rfl⟩
      have k41 := (c_X8_remember l D cs w (msS M 0 (if (sX8_hasWork (M.1.2 1) p1) = true then (if (sX8_isWrong (M.1.2 1) p1) = true then (0 : Int32) else (2 : Int32)) else (1 : Int32))) hd h0)
      rw [hG41] at k41
      rw [hG41] at hv
      refine w_v (G41) (va_runV (As := []) (rest := []) ⟨hx, hb, hml, hown, hts⟩ k41 (cwV 0 hts (good_V w_ml_X8_248 w_im_X8_remember w_se_X8_remember w_in_X8 w_co_X8_remember) rfl rfl rfl ⟨rfl, hd_X8_remember⟩ ⟨Nat.le_of_ble_eq_true rfl, Nat.le_of_ble_eq_true rfl⟩) (pe_W (C := RX8) (T := TX8) (N := 14) (ci := 8) (q0 := 0) hP hE rfl rfl) rfl rfl hl.1 rfl (lv_room (Nat.le_of_ble_eq_true rfl)) dX8_mend_41 ⟨Nat.zero_le _, Nat.zero_le _⟩) hS (fun _ _ h => h) (fun _ h => h) (fun t locs hB hz hk hS => ?_)
      have hP : va_P D vwC (mW cs w (G41)) t.heap := hB
      have g1 : G41.1.2 1 = M.1.2 1 := by rw [← hG41, rem_now]; rfl
      refine lv_aload_n hx hb dX8_mend_44 rfl (lv_at hl 0 rfl) ?_
      refine va_get (D := D) (ci := 8) (v := .ref (w 1)) (C := RX8) (T := TX8) (N := 14) hx hb hts iw_X8 hown hK hP 0 rfl rfl 1 (by decide) (hts _ w_fl_X8_7) (fun _ h9 => h9) rfl dX8_mend_45 ?_
      refine lv_iload_n hx hb dX8_mend_48 rfl (lv_at hl 1 rfl) ?_
      obtain ⟨G49, hG49⟩ : ∃ G, sX8_goMend ((G41).1.2 1) p1 = G := ⟨_, rfl⟩
      have k49 := (c_X8_goMend l D cs (w 1) ((G41).1.2 1) p1 (by rw [g1]; exact hv0) (by rw [g1]; exact f2))
      rw [hG49] at k49
      rw [hG49] at hv
      refine w_i (G49) (va_runS (As := [.ref (w 1), .int p1]) (rest := []) ⟨hx, hb, hml, hown, hts⟩ k49 (cwS 2 hts (good_S w_ml_X8_272 w_st_X8_goMend w_in_X8 w_co_X8_goMend) rfl rfl rfl ⟨rfl, hd_X8_goMend⟩ ⟨Nat.le_of_ble_eq_true rfl, Nat.le_of_ble_eq_true rfl⟩) (pe_S (hP.sub (ws' := rowW cs (w 1) ((G41).1.2 1)) [1] rfl) hE) rfl rfl hl.1 rfl (lv_room (Nat.le_of_ble_eq_true rfl)) dX8_mend_49 ⟨Nat.zero_le _, Nat.zero_le _⟩) hS (fun _ _ h => ⟨1, by decide, h⟩) (fun _ h => ⟨1, by decide, h⟩) (fun t locs hB hz hk hS => ?_)
      have hP : va_P D vwC (mW cs w (msA (G41) 1 ((G49).2))) t.heap := m_up1 hd hP hk hB
      exact W.iret (v := (G49).1) hx hb hr (fun t ht hW => ⟨⟨(G49).1, (msA (G41) 1 ((G49).2)), rfl, pair_eq hv, pw ht hP⟩, hS.F ht⟩) hS.2.2 dX8_mend_52 (hlocks := hlocks)
    · have c35 := b2i_t c35
      have hv := (if_pos c35).symm.trans hv
      refine lv_iconst (v := 0) hx hb dX8_mend_38 (by decide) ?_
      exact W.iret (v := 0) hx hb hr (fun t ht hW => ⟨⟨0, (msS M 0 (if (sX8_hasWork (M.1.2 1) p1) = true then (if (sX8_isWrong (M.1.2 1) p1) = true then (0 : Int32) else (2 : Int32)) else (1 : Int32))), rfl, pair_eq hv, pw ht hP⟩, hS.F ht⟩) hS.2.2 dX8_mend_39 (hlocks := hlocks)
  · refine lv_if_ne (tgt := 16) hx hb dX8_mend_9 (by decide) (fun c9 => ?_) (fun c9 => ?_)
    · have c9 := b2i_t c9
      refine lv_aload_n hx hb dX8_mend_16 rfl (lv_at hl 0 rfl) ?_
      refine va_get (D := D) (ci := 8) (v := .ref (w 1)) (C := RX8) (T := TX8) (N := 14) hx hb hts iw_X8 hown hK hP 0 rfl rfl 1 (by decide) (hts _ w_fl_X8_7) (fun _ h9 => h9) rfl dX8_mend_17 ?_
      refine lv_iload_n hx hb dX8_mend_20 rfl (lv_at hl 1 rfl) ?_
      refine ro_i (b2i (sX8_isWrong (M.1.2 1) p1)) (run_c (va_runS (As := [.ref (w 1), .int p1]) (rest := [.ref (w 0)]) ⟨hx, hb, hml, hown, hts⟩ (c_X8_isWrong l D cs (w 1) (M.1.2 1) p1 hv0 (hasW_t hv0.2.2.1.1 c9)) (cwS 2 hts (good_S w_ml_X8_81 w_st_X8_isWrong w_in_X8 w_co_X8_isWrong) rfl rfl rfl ⟨rfl, hd_X8_isWrong⟩ ⟨Nat.le_of_ble_eq_true rfl, Nat.le_of_ble_eq_true rfl⟩) (pe_S (hP.sub (ws' := rowW cs (w 1) (M.1.2 1)) [1] rfl) hE) rfl rfl hl.1 rfl (lv_room (Nat.le_of_ble_eq_true rfl)) dX8_mend_21 ⟨Nat.zero_le _, Nat.zero_le _⟩)) ?_
      refine lv_if_ne (tgt := 31) hx hb dX8_mend_24 (by decide) (fun c24 => ?_) (fun c24 => ?_)
      · have c24 := b2i_t c24
        refine lv_iconst (v := 0) hx hb dX8_mend_31 (by decide) ?_
        exact hJ _ ((if_pos c9).trans ((if_pos c24).trans rfl))
      · have c24 := b2i_f c24
        refine lv_iconst (v := 2) hx hb dX8_mend_27 (by decide) ?_
        refine lv_goto (tgt := 32) hx hb dX8_mend_28 (by decide) ?_
        exact hJ _ ((if_pos c9).trans ((if_neg c24).trans rfl))
    · have c9 := b2i_f c9
      refine lv_iconst (v := 1) hx hb dX8_mend_12 (by decide) ?_
      refine lv_goto (tgt := 32) hx hb dX8_mend_13 (by decide) ?_
      exact hJ _ ((if_neg c9).trans rfl)
theorem hd_X8_run : yX8_run.cls ≠ "java/lang/invoke/MethodHandle" ∧ yX8_run.cls ≠ "java/lang/invoke/VarHandle" ∧ (parseMethodDescriptor yX8_run.desc).map (fun d => d.parameters.length) = some 1 := by decide +kernel
def sX8_run (M : MS) (p1 : Int32) : Int32 × MS := (if (refB (b2i (if (sX8_in p1.toInt64 (1 : Int64) (30 : Int64)) = true then false else true))) = true then (0, (msS M 0 (b2i (if (sX8_in p1.toInt64 (1 : Int64) (30 : Int64)) = true then false else true)))) else (((sX8_goRun (((sX8_remember (msS M 0 (b2i (if (sX8_in p1.toInt64 (1 : Int64) (30 : Int64)) = true then false else true))))).1.2 1) p1)).1, (msA ((sX8_remember (msS M 0 (b2i (if (sX8_in p1.toInt64 (1 : Int64) (30 : Int64)) = true then false else true))))) 1 (((sX8_goRun (((sX8_remember (msS M 0 (b2i (if (sX8_in p1.toInt64 (1 : Int64) (30 : Int64)) = true then false else true))))).1.2 1) p1)).2))))
set_option maxHeartbeats 4000000 in
set_option maxRecDepth 100000 in
theorem c_X8_run (l : Launch) (D : va_G) (cs : Nat → ClassId) (w : Nat → Nat) (M : MS) (p1 : Int32) (hd : mD w) (hv0 : MV (M.1.2 1)) (h0 : vp_in (M.1.1 1) 15) : Met l yX8_run (wc yX8_run cX8_run 2 (some .int)) ({ frames := 5, cells := 0, slots := 0, locals := 110 } : Room) (va_Pc [.ref (w 0), .int p1] (PE D cs (mW cs w M))) (va_Qi (fun (r9 : Int32) (u : MS) => r9 = (sX8_run M p1).1 ∧ u = (sX8_run M p1).2) (fun u t => va_P D vwC (mW cs w u) t.heap) (mA w)) 0 0 (mA w) := by
  obtain ⟨v, hv⟩ : ∃ v, sX8_run M p1 = v := ⟨_, rfl⟩
  rw [hv]
  refine met_o (lv := [(0, .ref (w 0)), (1, .int p1)]) (by decide) (Nat.le_of_ble_eq_true rfl) rfl ?_
  intro p e s m args below meth c ls hx hb hr hml hts hown hlocks hin hP hE hl
  have hown : s.vm.findClass RX8 = some m.cls := hown
  have hK := hE.1
  have hP : va_P D vwC (mW cs w M) s.heap := hP
  have hS : va_S (mA w) s.heap s.heap [] := va_S.rf
  unfold sX8_run at hv
  refine lv_aload_n hx hb dX8_run_0 rfl (lv_at hl 0 rfl) ?_
  refine lv_iload_n hx hb dX8_run_1 rfl (lv_at hl 1 rfl) ?_
  refine lv_i2l hx hb dX8_run_2 rfl ?_
  refine lv_lconst (v := 1) hx hb dX8_run_3 (by decide) ?_
  refine lv_ldc2 (v := 30) hx hb hown (hts _ w_cn_X8_275) dX8_run_4 ?_
  refine ro_i (b2i (sX8_in p1.toInt64 (1 : Int64) (30 : Int64))) (run_c (va_runS (As := [.long p1.toInt64, .long (1 : Int64), .long (30 : Int64)]) (rest := [.ref (w 0)]) ⟨hx, hb, hml, hown, hts⟩ (c_X8_in l D cs p1.toInt64 (1 : Int64) (30 : Int64)) (cwS 3 hts (good_S w_ml_X8_42 w_st_X8_in w_in_X8 w_co_X8_in) rfl rfl rfl ⟨rfl, hd_X8_in⟩ ⟨Nat.le_of_ble_eq_true rfl, Nat.le_of_ble_eq_true rfl⟩) (pe_S (p_nil D _) hE) rfl rfl hl.1 rfl (lv_room (Nat.le_of_ble_eq_true rfl)) dX8_run_7 ⟨Nat.zero_le _, Nat.zero_le _⟩)) ?_
  refine join_i (J := 18) (ls := ls) (rest := [.ref (w 0)]) (b2i (if (sX8_in p1.toInt64 (1 : Int64) (30 : Int64)) = true then false else true)) ?_ (fun hJ => ?_)
  · refine w_b (refB (b2i (if (sX8_in p1.toInt64 (1 : Int64) (30 : Int64)) = true then false else true)), (msS M 0 (b2i (if (sX8_in p1.toInt64 (1 : Int64) (30 : Int64)) = true then false else true)))) (va_runV (As := [.int (b2i (if (sX8_in p1.toInt64 (1 : Int64) (30 : Int64)) = true then false else true))]) (rest := []) ⟨hx, hb, hml, hown, hts⟩ (c_X8_refused l D cs w M (b2i (if (sX8_in p1.toInt64 (1 : Int64) (30 : Int64)) = true then false else true)) hd) (cwV 1 hts (good_V w_ml_X8_105 w_im_X8_refused w_se_X8_refused w_in_X8 w_co_X8_refused) rfl rfl rfl ⟨rfl, hd_X8_refused⟩ ⟨Nat.le_of_ble_eq_true rfl, Nat.le_of_ble_eq_true rfl⟩) (pe_W (C := RX8) (T := TX8) (N := 14) (ci := 8) (q0 := 0) hP hE rfl rfl) rfl rfl hl.1 rfl (lv_room (Nat.le_of_ble_eq_true rfl)) dX8_run_18 ⟨Nat.zero_le _, Nat.zero_le _⟩) hS (fun _ _ h => h) (fun _ h => h) (fun t locs hB hz hk hS => ?_)
    have hP : va_P D vwC (mW cs w (msS M 0 (b2i (if (sX8_in p1.toInt64 (1 : Int64) (30 : Int64)) = true then false else true)))) t.heap := hB
    refine lv_if_eq (tgt := 26) hx hb dX8_run_21 (by decide) (fun c21 => ?_) (fun c21 => ?_)
    · have c21 := b2i_f c21
      have hv := (if_neg c21).symm.trans hv
      refine lv_aload_n hx hb dX8_run_26 rfl (lv_at hl 0 rfl) ?_
      obtain ⟨G27, hG27⟩ : ∃ G, sX8_remember (msS M 0 (b2i (if (sX8_in p1.toInt64 (1 : Int64) (30 : Int64)) = true then false else true))) = G := ⟨_, rfl⟩
      have k27 := (c_X8_remember l D cs w (msS M 0 (b2i (if (sX8_in p1.toInt64 (1 : Int64) (30 : Int64)) = true then false else true))) hd h0)
      rw [hG27] at k27
      rw [hG27] at hv
      refine w_v (G27) (va_runV (As := []) (rest := []) ⟨hx, hb, hml, hown, hts⟩ k27 (cwV 0 hts (good_V w_ml_X8_248 w_im_X8_remember w_se_X8_remember w_in_X8 w_co_X8_remember) rfl rfl rfl ⟨rfl, hd_X8_remember⟩ ⟨Nat.le_of_ble_eq_true rfl, Nat.le_of_ble_eq_true rfl⟩) (pe_W (C := RX8) (T := TX8) (N := 14) (ci := 8) (q0 := 0) hP hE rfl rfl) rfl rfl hl.1 rfl (lv_room (Nat.le_of_ble_eq_true rfl)) dX8_run_27 ⟨Nat.zero_le _, Nat.zero_le _⟩) hS (fun _ _ h => h) (fun _ h => h) (fun t locs hB hz hk hS => ?_)
      have hP : va_P D vwC (mW cs w (G27)) t.heap := hB
      have g1 : G27.1.2 1 = M.1.2 1 := by rw [← hG27, rem_now]; rfl
      refine lv_aload_n hx hb dX8_run_30 rfl (lv_at hl 0 rfl) ?_
      refine va_get (D := D) (ci := 8) (v := .ref (w 1)) (C := RX8) (T := TX8) (N := 14) hx hb hts iw_X8 hown hK hP 0 rfl rfl 1 (by decide) (hts _ w_fl_X8_7) (fun _ h9 => h9) rfl dX8_run_31 ?_
      refine lv_iload_n hx hb dX8_run_34 rfl (lv_at hl 1 rfl) ?_
      obtain ⟨G35, hG35⟩ : ∃ G, sX8_goRun ((G27).1.2 1) p1 = G := ⟨_, rfl⟩
      have k35 := (c_X8_goRun l D cs (w 1) ((G27).1.2 1) p1 (by rw [g1]; exact hv0.2.1.2))
      rw [hG35] at k35
      rw [hG35] at hv
      refine w_i (G35) (va_runS (As := [.ref (w 1), .int p1]) (rest := []) ⟨hx, hb, hml, hown, hts⟩ k35 (cwS 2 hts (good_S w_ml_X8_169 w_st_X8_goRun w_in_X8 w_co_X8_goRun) rfl rfl rfl ⟨rfl, hd_X8_goRun⟩ ⟨Nat.le_of_ble_eq_true rfl, Nat.le_of_ble_eq_true rfl⟩) (pe_S (hP.sub (ws' := rowW cs (w 1) ((G27).1.2 1)) [1] rfl) hE) rfl rfl hl.1 rfl (lv_room (Nat.le_of_ble_eq_true rfl)) dX8_run_35 ⟨Nat.zero_le _, Nat.zero_le _⟩) hS (fun _ _ h => ⟨1, by decide, h⟩) (fun _ h => ⟨1, by decide, h⟩) (fun t locs hB hz hk hS => ?_)
      have hP : va_P D vwC (mW cs w (msA (G27) 1 ((G35).2))) t.heap := m_up1 hd hP hk hB
      exact W.iret (v := (G35).1) hx hb hr (fun t ht hW => ⟨⟨(G35).1, (msA (G27) 1 ((G35).2)), rfl, pair_eq hv, pw ht hP⟩, hS.F ht⟩) hS.2.2 dX8_run_38 (hlocks := hlocks)
    · have c21 := b2i_t c21
      have hv := (if_pos c21).symm.trans hv
      refine lv_iconst (v := 0) hx hb dX8_run_24 (by decide) ?_
      exact W.iret (v := 0) hx hb hr (fun t ht hW => ⟨⟨0, (msS M 0 (b2i (if (sX8_in p1.toInt64 (1 : Int64) (30 : Int64)) = true then false else true))), rfl, pair_eq hv, pw ht hP⟩, hS.F ht⟩) hS.2.2 dX8_run_25 (hlocks := hlocks)
  · refine lv_if_eq (tgt := 17) hx hb dX8_run_10 (by decide) (fun c10 => ?_) (fun c10 => ?_)
    · have c10 := b2i_f c10
      refine lv_iconst (v := 1) hx hb dX8_run_17 (by decide) ?_
      exact hJ _ (congrArg b2i ((if_neg c10).trans rfl))
    · have c10 := b2i_t c10
      refine lv_iconst (v := 0) hx hb dX8_run_13 (by decide) ?_
      refine lv_goto (tgt := 18) hx hb dX8_run_14 (by decide) ?_
      exact hJ _ (congrArg b2i ((if_pos c10).trans rfl))
theorem hd_X8_set : yX8_set.cls ≠ "java/lang/invoke/MethodHandle" ∧ yX8_set.cls ≠ "java/lang/invoke/VarHandle" ∧ (parseMethodDescriptor yX8_set.desc).map (fun d => d.parameters.length) = some 2 := by decide +kernel
def sX8_set (M : MS) (p1 : Int32) (p2 : Int32) : Int32 × MS := (if (refB (b2i (if (sX8_isSetting p1 p2) = true then false else true))) = true then (0, (msS M 0 (b2i (if (sX8_isSetting p1 p2) = true then false else true)))) else ((((sX8_remember (msS M 0 (b2i (if (sX8_isSetting p1 p2) = true then false else true))))).1.2 1) (5 + p1).toNatClampNeg, (msA ((sX8_remember (msS M 0 (b2i (if (sX8_isSetting p1 p2) = true then false else true))))) 1 (upd (((sX8_remember (msS M 0 (b2i (if (sX8_isSetting p1 p2) = true then false else true))))).1.2 1) (5 + p1).toNatClampNeg p2))))
set_option maxHeartbeats 4000000 in
set_option maxRecDepth 100000 in
theorem c_X8_set (l : Launch) (D : va_G) (cs : Nat → ClassId) (w : Nat → Nat) (M : MS) (p1 : Int32) (p2 : Int32) (hd : mD w) (hv0 : MV (M.1.2 1)) (h0 : vp_in (M.1.1 1) 15) : Met l yX8_set (wc yX8_set cX8_set 4 (some .int)) ({ frames := 2, cells := 0, slots := 0, locals := 46 } : Room) (va_Pc [.ref (w 0), .int p1, .int p2] (PE D cs (mW cs w M))) (va_Qi (fun (r9 : Int32) (u : MS) => r9 = (sX8_set M p1 p2).1 ∧ u = (sX8_set M p1 p2).2) (fun u t => va_P D vwC (mW cs w u) t.heap) (mA w)) 0 0 (mA w) := by
  obtain ⟨v, hv⟩ : ∃ v, sX8_set M p1 p2 = v := ⟨_, rfl⟩
  rw [hv]
  refine met_o (lv := [(0, .ref (w 0)), (1, .int p1), (2, .int p2)]) (by decide) (Nat.le_of_ble_eq_true rfl) rfl ?_
  intro p e s m args below meth c ls hx hb hr hml hts hown hlocks hin hP hE hl
  have hown : s.vm.findClass RX8 = some m.cls := hown
  have hK := hE.1
  have hP : va_P D vwC (mW cs w M) s.heap := hP
  have hS : va_S (mA w) s.heap s.heap [] := va_S.rf
  unfold sX8_set at hv
  refine lv_aload_n hx hb dX8_set_0 rfl (lv_at hl 0 rfl) ?_
  refine lv_iload_n hx hb dX8_set_1 rfl (lv_at hl 1 rfl) ?_
  refine lv_iload_n hx hb dX8_set_2 rfl (lv_at hl 2 rfl) ?_
  refine ro_i (b2i (sX8_isSetting p1 p2)) (run_c (va_runS (As := [.int p1, .int p2]) (rest := [.ref (w 0)]) ⟨hx, hb, hml, hown, hts⟩ (c_X8_isSetting l D cs p1 p2) (cwS 2 hts (good_S w_ml_X8_277 w_st_X8_isSetting w_in_X8 w_co_X8_isSetting) rfl rfl rfl ⟨rfl, hd_X8_isSetting⟩ ⟨Nat.le_of_ble_eq_true rfl, Nat.le_of_ble_eq_true rfl⟩) (pe_S (p_nil D _) hE) rfl rfl hl.1 rfl (lv_room (Nat.le_of_ble_eq_true rfl)) dX8_set_3 ⟨Nat.zero_le _, Nat.zero_le _⟩)) ?_
  refine join_i (J := 14) (ls := ls) (rest := [.ref (w 0)]) (b2i (if (sX8_isSetting p1 p2) = true then false else true)) ?_ (fun hJ => ?_)
  · refine w_b (refB (b2i (if (sX8_isSetting p1 p2) = true then false else true)), (msS M 0 (b2i (if (sX8_isSetting p1 p2) = true then false else true)))) (va_runV (As := [.int (b2i (if (sX8_isSetting p1 p2) = true then false else true))]) (rest := []) ⟨hx, hb, hml, hown, hts⟩ (c_X8_refused l D cs w M (b2i (if (sX8_isSetting p1 p2) = true then false else true)) hd) (cwV 1 hts (good_V w_ml_X8_105 w_im_X8_refused w_se_X8_refused w_in_X8 w_co_X8_refused) rfl rfl rfl ⟨rfl, hd_X8_refused⟩ ⟨Nat.le_of_ble_eq_true rfl, Nat.le_of_ble_eq_true rfl⟩) (pe_W (C := RX8) (T := TX8) (N := 14) (ci := 8) (q0 := 0) hP hE rfl rfl) rfl rfl hl.1 rfl (lv_room (Nat.le_of_ble_eq_true rfl)) dX8_set_14 ⟨Nat.zero_le _, Nat.zero_le _⟩) hS (fun _ _ h => h) (fun _ h => h) (fun t locs hB hz hk hS => ?_)
    have hP : va_P D vwC (mW cs w (msS M 0 (b2i (if (sX8_isSetting p1 p2) = true then false else true)))) t.heap := hB
    refine lv_if_eq (tgt := 22) hx hb dX8_set_17 (by decide) (fun c17 => ?_) (fun c17 => ?_)
    · have c17 := b2i_f c17
      have hv := (if_neg c17).symm.trans hv
      have f1 := iftb (b2i_f (rf0 c17))
      have f2 := isSet_in f1.1
      refine lv_aload_n hx hb dX8_set_22 rfl (lv_at hl 0 rfl) ?_
      obtain ⟨G23, hG23⟩ : ∃ G, sX8_remember (msS M 0 (b2i (if (sX8_isSetting p1 p2) = true then false else true))) = G := ⟨_, rfl⟩
      have k23 := (c_X8_remember l D cs w (msS M 0 (b2i (if (sX8_isSetting p1 p2) = true then false else true))) hd h0)
      rw [hG23] at k23
      rw [hG23] at hv
      refine w_v (G23) (va_runV (As := []) (rest := []) ⟨hx, hb, hml, hown, hts⟩ k23 (cwV 0 hts (good_V w_ml_X8_248 w_im_X8_remember w_se_X8_remember w_in_X8 w_co_X8_remember) rfl rfl rfl ⟨rfl, hd_X8_remember⟩ ⟨Nat.le_of_ble_eq_true rfl, Nat.le_of_ble_eq_true rfl⟩) (pe_W (C := RX8) (T := TX8) (N := 14) (ci := 8) (q0 := 0) hP hE rfl rfl) rfl rfl hl.1 rfl (lv_room (Nat.le_of_ble_eq_true rfl)) dX8_set_23 ⟨Nat.zero_le _, Nat.zero_le _⟩) hS (fun _ _ h => h) (fun _ h => h) (fun t locs hB hz hk hS => ?_)
      have hP : va_P D vwC (mW cs w (G23)) t.heap := hB
      have g1 : G23.1.2 1 = M.1.2 1 := by rw [← hG23, rem_now]; rfl
      refine lv_aload_n hx hb dX8_set_26 rfl (lv_at hl 0 rfl) ?_
      refine va_get (D := D) (ci := 8) (v := .ref (w 1)) (C := RX8) (T := TX8) (N := 14) hx hb hts iw_X8 hown hK hP 0 rfl rfl 1 (by decide) (hts _ w_fl_X8_7) (fun _ h9 => h9) rfl dX8_set_27 ?_
      refine lv_iconst (v := 5) hx hb dX8_set_30 (by decide) ?_
      refine lv_iload_n hx hb dX8_set_31 rfl (lv_at hl 1 rfl) ?_
      refine lv_iadd hx hb dX8_set_32 ?_
      refine va_iald (cA := cs 0) (n := 414) (f := ((G23).1.2 1)) hx hb hK hP 1 0 rfl rfl (vp_off (K := 5) rfl (by assumption) (by decide) (by decide)) dX8_set_33 ?_
      refine lv_istore_n (lv' := [(3, .int (((G23).1.2 1) (5 + p1).toNatClampNeg)), (0, .ref (w 0)), (1, .int p1), (2, .int p2)]) hx hb dX8_set_34 rfl hl (by decide) rfl (fun ls hl => ?_)
      refine lv_aload_n hx hb dX8_set_35 rfl (lv_at hl 1 rfl) ?_
      refine va_get (D := D) (ci := 8) (v := .ref (w 1)) (C := RX8) (T := TX8) (N := 14) hx hb hts iw_X8 hown hK hP 0 rfl rfl 1 (by decide) (hts _ w_fl_X8_7) (fun _ h9 => h9) rfl dX8_set_36 ?_
      refine lv_iconst (v := 5) hx hb dX8_set_39 (by decide) ?_
      refine lv_iload_n hx hb dX8_set_40 rfl (lv_at hl 2 rfl) ?_
      refine lv_iadd hx hb dX8_set_41 ?_
      refine lv_iload_n hx hb dX8_set_42 rfl (lv_at hl 3 rfl) ?_
      refine va_iast (cA := cs 0) (n := 414) (f := ((G23).1.2 1)) hx hb hK hP (m_D cs (G23) hd) hS 1 0 rfl rfl (vp_off (K := 5) rfl (by assumption) (by decide) (by decide)) dX8_set_43 (fun H locs hP _ hS => ?_)
      have hP : va_P D vwC (mW cs w (msA (G23) 1 (upd ((G23).1.2 1) (5 + p1).toNatClampNeg p2))) H := hP
      refine lv_iload_n hx hb dX8_set_44 rfl (lv_at hl 0 rfl) ?_
      exact W.iret (v := ((G23).1.2 1) (5 + p1).toNatClampNeg) hx hb hr (fun t ht hW => ⟨⟨((G23).1.2 1) (5 + p1).toNatClampNeg, (msA (G23) 1 (upd ((G23).1.2 1) (5 + p1).toNatClampNeg p2)), rfl, pair_eq hv, pw ht hP⟩, hS.F ht⟩) hS.2.2 dX8_set_45 (hlocks := hlocks)
    · have c17 := b2i_t c17
      have hv := (if_pos c17).symm.trans hv
      refine lv_iconst (v := 0) hx hb dX8_set_20 (by decide) ?_
      exact W.iret (v := 0) hx hb hr (fun t ht hW => ⟨⟨0, (msS M 0 (b2i (if (sX8_isSetting p1 p2) = true then false else true))), rfl, pair_eq hv, pw ht hP⟩, hS.F ht⟩) hS.2.2 dX8_set_21 (hlocks := hlocks)
  · refine lv_if_eq (tgt := 13) hx hb dX8_set_6 (by decide) (fun c6 => ?_) (fun c6 => ?_)
    · have c6 := b2i_f c6
      refine lv_iconst (v := 1) hx hb dX8_set_13 (by decide) ?_
      exact hJ _ (congrArg b2i ((if_neg c6).trans rfl))
    · have c6 := b2i_t c6
      refine lv_iconst (v := 0) hx hb dX8_set_9 (by decide) ?_
      refine lv_goto (tgt := 14) hx hb dX8_set_10 (by decide) ?_
      exact hJ _ (congrArg b2i ((if_pos c6).trans rfl))
theorem hd_X8_undo : yX8_undo.cls ≠ "java/lang/invoke/MethodHandle" ∧ yX8_undo.cls ≠ "java/lang/invoke/VarHandle" ∧ (parseMethodDescriptor yX8_undo.desc).map (fun d => d.parameters.length) = some 0 := by decide +kernel
def LX8_undo_33 (M : MS) : Nat → Int32 → MS → Int32 × MS
  | 0 => fun _ _ => (0, M)
  | n + 1 => fun x1 O9 => (if 414 ≤ x1 then ((O9.1.1 1), O9) else (LX8_undo_33 M n (x1 + 1) (msA O9 1 (upd (O9.1.2 1) x1.toNatClampNeg ((O9.1.2 4) ((414 * (O9.1.1 1)) + x1).toNatClampNeg)))))
theorem LX8_undo_33_eq (M : MS) (n : Nat) (x1 : Int32) (O9 : MS) : LX8_undo_33 M (n + 1) x1 O9 = (if 414 ≤ x1 then ((O9.1.1 1), O9) else (LX8_undo_33 M n (x1 + 1) (msA O9 1 (upd (O9.1.2 1) x1.toNatClampNeg ((O9.1.2 4) ((414 * (O9.1.1 1)) + x1).toNatClampNeg))))) := rfl
def sX8_undo (M : MS) : Int32 × MS := (if (refB (b2i (if (M.1.1 1) = 0 then true else false))) = true then (0, (msS M 0 (b2i (if (M.1.1 1) = 0 then true else false)))) else (LX8_undo_33 M (upM 414 0 + 1) 0 (msS (msS M 0 (b2i (if (M.1.1 1) = 0 then true else false))) 1 ((M.1.1 1) - 1))))
set_option maxHeartbeats 4000000 in
set_option maxRecDepth 100000 in
theorem c_X8_undo (l : Launch) (D : va_G) (cs : Nat → ClassId) (w : Nat → Nat) (M : MS) (hd : mD w) (h0 : vp_in (M.1.1 1) 15) : Met l yX8_undo (wc yX8_undo cX8_undo 2 (some .int)) ({ frames := 1, cells := 0, slots := 0, locals := 21 } : Room) (va_Pc [.ref (w 0)] (PE D cs (mW cs w M))) (va_Qi (fun (r9 : Int32) (u : MS) => r9 = (sX8_undo M).1 ∧ u = (sX8_undo M).2) (fun u t => va_P D vwC (mW cs w u) t.heap) (mA w)) 0 0 (mA w) := by
  obtain ⟨v, hv⟩ : ∃ v, sX8_undo M = v := ⟨_, rfl⟩
  rw [hv]
  refine met_o (lv := [(0, .ref (w 0))]) (by decide) (Nat.le_of_ble_eq_true rfl) rfl ?_
  intro p e s m args below meth c ls hx hb hr hml hts hown hlocks hin hP hE hl
  have hown : s.vm.findClass RX8 = some m.cls := hown
  have hK := hE.1
  have hP : va_P D vwC (mW cs w M) s.heap := hP
  have hS : va_S (mA w) s.heap s.heap [] := va_S.rf
  unfold sX8_undo at hv
  refine lv_aload_n hx hb dX8_undo_0 rfl (lv_at hl 0 rfl) ?_
  refine lv_aload_n hx hb dX8_undo_1 rfl (lv_at hl 0 rfl) ?_
  refine va_get (D := D) (ci := 8) (v := .int (M.1.1 1)) (C := RX8) (T := TX8) (N := 14) hx hb hts iw_X8 hown hK hP 0 rfl rfl 5 (by decide) (hts _ w_fl_X8_97) (fun _ h9 => h9) rfl dX8_undo_2 ?_
  refine join_i (J := 13) (ls := ls) (rest := [.ref (w 0)]) (b2i (if (M.1.1 1) = 0 then true else false)) ?_ (fun hJ => ?_)
  · refine w_b (refB (b2i (if (M.1.1 1) = 0 then true else false)), (msS M 0 (b2i (if (M.1.1 1) = 0 then true else false)))) (va_runV (As := [.int (b2i (if (M.1.1 1) = 0 then true else false))]) (rest := []) ⟨hx, hb, hml, hown, hts⟩ (c_X8_refused l D cs w M (b2i (if (M.1.1 1) = 0 then true else false)) hd) (cwV 1 hts (good_V w_ml_X8_105 w_im_X8_refused w_se_X8_refused w_in_X8 w_co_X8_refused) rfl rfl rfl ⟨rfl, hd_X8_refused⟩ ⟨Nat.le_of_ble_eq_true rfl, Nat.le_of_ble_eq_true rfl⟩) (pe_W (C := RX8) (T := TX8) (N := 14) (ci := 8) (q0 := 0) hP hE rfl rfl) rfl rfl hl.1 rfl (lv_room (Nat.le_of_ble_eq_true rfl)) dX8_undo_13 ⟨Nat.zero_le _, Nat.zero_le _⟩) hS (fun _ _ h => h) (fun _ h => h) (fun t locs hB hz hk hS => ?_)
    have hP : va_P D vwC (mW cs w (msS M 0 (b2i (if (M.1.1 1) = 0 then true else false)))) t.heap := hB
    refine lv_if_eq (tgt := 21) hx hb dX8_undo_16 (by decide) (fun c16 => ?_) (fun c16 => ?_)
    · have c16 := b2i_f c16
      have hv := (if_neg c16).symm.trans hv
      have f1 := ifbn (b2i_f (rf0 c16))
      refine lv_aload_n hx hb dX8_undo_21 rfl (lv_at hl 0 rfl) ?_
      refine lv_dup hx hb dX8_undo_22 rfl ?_
      refine va_get (D := D) (ci := 8) (v := .int (M.1.1 1)) (C := RX8) (T := TX8) (N := 14) hx hb hts iw_X8 hown hK hP 0 rfl rfl 5 (by decide) (hts _ w_fl_X8_97) (fun _ h9 => h9) rfl dX8_undo_23 ?_
      refine lv_iconst (v := 1) hx hb dX8_undo_26 (by decide) ?_
      refine lv_isub hx hb dX8_undo_27 ?_
      refine va_put (D := D) (ci := 8) (v := .int ((M.1.1 1) - 1)) (ty := .int) (C := RX8) (T := TX8) (N := 14) hx hb hts iw_X8 tyX8 tyX8_ok nmX8 hown hK hP (m_D cs (msS M 0 (b2i (if (M.1.1 1) = 0 then true else false))) hd) hS 0 rfl rfl 5 (by decide) (hts _ w_fl_X8_97) (fun _ h9 => h9) rfl (by decide +kernel) rfl rfl (Nat.le_of_ble_eq_true rfl) dX8_undo_28 (fun H locs hP _ hS => ?_)
      have hP : va_P D vwC (mW cs w (msS (msS M 0 (b2i (if (M.1.1 1) = 0 then true else false))) 1 ((M.1.1 1) - 1))) H := hP
      refine lv_iconst (v := 0) hx hb dX8_undo_31 (by decide) ?_
      refine lv_istore_n (lv' := [(1, .int 0), (0, .ref (w 0))]) hx hb dX8_undo_32 rfl hl (by decide) rfl (fun ls hl => ?_)
      have LOOP : ∀ (n : Nat) (x1 : Int32) (O9 : MS), upM 414 x1 < n → (¬ x1 < 0) → (vp_in (O9.1.1 1) 14) → LX8_undo_33 M n x1 O9 = v → ∀ (H : Heap) (locs : List Loc), va_P D vwC (mW cs w O9) H → va_S (mA w) s.heap H locs → ∀ ls : Array Slot, lv_has ls 2 [(0, .ref (w 0)), (1, .int x1)] → W p l e ({ frames := 1, cells := 0, slots := 0, locals := 21 } : Room) s m args below meth c H locs 0 0 (MQ below (va_Qi (fun (r9 : Int32) (u : MS) => r9 = v.1 ∧ u = v.2) (fun u t => va_P D vwC (mW cs w u) t.heap) (mA w)) args s 0 0 (mA w)) (F0 m 33 ls []) := by
        clear hv
        intro n
        induction n with
        | zero => intro x1 O9 hm; exact absurd hm (Nat.not_lt_zero _)
        | succ n ih =>
          intro x1 O9 hm i0 i1 hv H locs hP hS ls hl
          have hv := (LX8_undo_33_eq M n x1 O9).symm.trans hv
          refine lv_iload_n hx hb dX8_undo_33 rfl (lv_at hl 1 rfl) ?_
          refine lv_sipush (v := 414) hx hb dX8_undo_34 (by decide) ?_
          refine lv_icmp_ge (tgt := 67) hx hb dX8_undo_37 (by decide) (fun c37 => ?_) (fun c37 => ?_)
          · have hv := (if_pos c37).symm.trans hv
            refine lv_aload_n hx hb dX8_undo_67 rfl (lv_at hl 0 rfl) ?_
            refine va_get (D := D) (ci := 8) (v := .int (O9.1.1 1)) (C := RX8) (T := TX8) (N := 14) hx hb hts iw_X8 hown hK hP 0 rfl rfl 5 (by decide) (hts _ w_fl_X8_97) (fun _ h9 => h9) rfl dX8_undo_68 ?_
            exact W.iret (v := (O9.1.1 1)) hx hb hr (fun t ht hW => ⟨⟨(O9.1.1 1), O9, rfl, pair_eq hv, pw ht hP⟩, hS.F ht⟩) hS.2.2 dX8_undo_71 (hlocks := hlocks)
          · have hv := (if_neg c37).symm.trans hv
            refine lv_aload_n hx hb dX8_undo_40 rfl (lv_at hl 0 rfl) ?_
            refine va_get (D := D) (ci := 8) (v := .ref (w 1)) (C := RX8) (T := TX8) (N := 14) hx hb hts iw_X8 hown hK hP 0 rfl rfl 1 (by decide) (hts _ w_fl_X8_7) (fun _ h9 => h9) rfl dX8_undo_41 ?_
            refine lv_iload_n hx hb dX8_undo_44 rfl (lv_at hl 1 rfl) ?_
            refine lv_aload_n hx hb dX8_undo_45 rfl (lv_at hl 0 rfl) ?_
            refine va_get (D := D) (ci := 8) (v := .ref (w 4)) (C := RX8) (T := TX8) (N := 14) hx hb hts iw_X8 hown hK hP 0 rfl rfl 4 (by decide) (hts _ w_fl_X8_19) (fun _ h9 => h9) rfl dX8_undo_46 ?_
            refine lv_sipush (v := 414) hx hb dX8_undo_49 (by decide) ?_
            refine lv_aload_n hx hb dX8_undo_52 rfl (lv_at hl 0 rfl) ?_
            refine va_get (D := D) (ci := 8) (v := .int (O9.1.1 1)) (C := RX8) (T := TX8) (N := 14) hx hb hts iw_X8 hown hK hP 0 rfl rfl 5 (by decide) (hts _ w_fl_X8_97) (fun _ h9 => h9) rfl dX8_undo_53 ?_
            refine lv_imul hx hb dX8_undo_56 ?_
            refine lv_iload_n hx hb dX8_undo_57 rfl (lv_at hl 1 rfl) ?_
            refine lv_iadd hx hb dX8_undo_58 ?_
            refine va_iald (cA := cs 0) (n := 5796) (f := (O9.1.2 4)) hx hb hK hP 4 0 rfl rfl (bk_in (K := 14) (by decide) (by decide) i1 (vp_a rfl i0 c37)) dX8_undo_59 ?_
            refine va_iast (cA := cs 0) (n := 414) (f := (O9.1.2 1)) hx hb hK hP (m_D cs O9 hd) hS 1 0 rfl rfl (vp_a rfl i0 c37) dX8_undo_60 (fun H locs hP _ hS => ?_)
            have hP : va_P D vwC (mW cs w (msA O9 1 (upd (O9.1.2 1) x1.toNatClampNeg ((O9.1.2 4) ((414 * (O9.1.1 1)) + x1).toNatClampNeg)))) H := hP
            refine lv_iinc (v := x1 + 1) (lv' := [(1, .int (x1 + 1)), (0, .ref (w 0))]) hx hb dX8_undo_61 hl (k := 1) rfl rfl (by decide) rfl (fun ls hl => ?_)
            refine lv_goto (tgt := 33) hx hb dX8_undo_64 (by decide) ?_
            exact ih (x1 + 1) (msA O9 1 (upd (O9.1.2 1) x1.toNatClampNeg ((O9.1.2 4) ((414 * (O9.1.1 1)) + x1).toNatClampNeg))) (upM_s c37 hm) (nn_inc i0 c37) (by exact i1) hv _ _ hP hS ls (lv_sub hl [1, 0] rfl)
      exact LOOP _ 0 (msS (msS M 0 (b2i (if (M.1.1 1) = 0 then true else false))) 1 ((M.1.1 1) - 1)) (Nat.lt_succ_self _) (by decide) (by exact dec_in h0 f1.1) hv _ _ hP hS ls (lv_sub hl [1, 0] rfl)
    · have c16 := b2i_t c16
      have hv := (if_pos c16).symm.trans hv
      refine lv_iconst (v := 0) hx hb dX8_undo_19 (by decide) ?_
      exact W.iret (v := 0) hx hb hr (fun t ht hW => ⟨⟨0, (msS M 0 (b2i (if (M.1.1 1) = 0 then true else false))), rfl, pair_eq hv, pw ht hP⟩, hS.F ht⟩) hS.2.2 dX8_undo_20 (hlocks := hlocks)
  · refine lv_if_ne (tgt := 12) hx hb dX8_undo_5 (by decide) (fun c5 => ?_) (fun c5 => ?_)
    · refine lv_iconst (v := 0) hx hb dX8_undo_12 (by decide) ?_
      exact hJ _ (congrArg b2i ((if_neg c5).trans rfl))
    · refine lv_iconst (v := 1) hx hb dX8_undo_8 (by decide) ?_
      refine lv_goto (tgt := 13) hx hb dX8_undo_9 (by decide) ?_
      exact hJ _ (congrArg b2i ((if_pos c5).trans rfl))
theorem hd_X8_save : yX8_save.cls ≠ "java/lang/invoke/MethodHandle" ∧ yX8_save.cls ≠ "java/lang/invoke/VarHandle" ∧ (parseMethodDescriptor yX8_save.desc).map (fun d => d.parameters.length) = some 1 := by decide +kernel
def LX8_save_26 (M : MS) (p1 : Int32) : Nat → Int32 → MS → Int32 × MS
  | 0 => fun _ _ => (0, M)
  | n + 1 => fun x2 O9 => (if 414 ≤ x2 then ((O9.1.2 1) (3 : Int32).toNatClampNeg, (msA O9 6 (upd (O9.1.2 6) p1.toNatClampNeg 1))) else (LX8_save_26 M p1 n (x2 + 1) (msA O9 5 (upd (O9.1.2 5) ((414 * p1) + x2).toNatClampNeg ((O9.1.2 1) x2.toNatClampNeg)))))
theorem LX8_save_26_eq (M : MS) (p1 : Int32) (n : Nat) (x2 : Int32) (O9 : MS) : LX8_save_26 M p1 (n + 1) x2 O9 = (if 414 ≤ x2 then ((O9.1.2 1) (3 : Int32).toNatClampNeg, (msA O9 6 (upd (O9.1.2 6) p1.toNatClampNeg 1))) else (LX8_save_26 M p1 n (x2 + 1) (msA O9 5 (upd (O9.1.2 5) ((414 * p1) + x2).toNatClampNeg ((O9.1.2 1) x2.toNatClampNeg))))) := rfl
def sX8_save (M : MS) (p1 : Int32) : Int32 × MS := (if (refB (b2i (if (sX8_in p1.toInt64 (0 : Int64) (1 : Int64)) = true then false else true))) = true then (0, (msS M 0 (b2i (if (sX8_in p1.toInt64 (0 : Int64) (1 : Int64)) = true then false else true)))) else (LX8_save_26 M p1 (upM 414 0 + 1) 0 (msS M 0 (b2i (if (sX8_in p1.toInt64 (0 : Int64) (1 : Int64)) = true then false else true)))))
set_option maxHeartbeats 4000000 in
set_option maxRecDepth 100000 in
theorem c_X8_save (l : Launch) (D : va_G) (cs : Nat → ClassId) (w : Nat → Nat) (M : MS) (p1 : Int32) (hd : mD w) : Met l yX8_save (wc yX8_save cX8_save 3 (some .int)) ({ frames := 1, cells := 0, slots := 0, locals := 25 } : Room) (va_Pc [.ref (w 0), .int p1] (PE D cs (mW cs w M))) (va_Qi (fun (r9 : Int32) (u : MS) => r9 = (sX8_save M p1).1 ∧ u = (sX8_save M p1).2) (fun u t => va_P D vwC (mW cs w u) t.heap) (mA w)) 0 0 (mA w) := by
  obtain ⟨v, hv⟩ : ∃ v, sX8_save M p1 = v := ⟨_, rfl⟩
  rw [hv]
  refine met_o (lv := [(0, .ref (w 0)), (1, .int p1)]) (by decide) (Nat.le_of_ble_eq_true rfl) rfl ?_
  intro p e s m args below meth c ls hx hb hr hml hts hown hlocks hin hP hE hl
  have hown : s.vm.findClass RX8 = some m.cls := hown
  have hK := hE.1
  have hP : va_P D vwC (mW cs w M) s.heap := hP
  have hS : va_S (mA w) s.heap s.heap [] := va_S.rf
  unfold sX8_save at hv
  refine lv_aload_n hx hb dX8_save_0 rfl (lv_at hl 0 rfl) ?_
  refine lv_iload_n hx hb dX8_save_1 rfl (lv_at hl 1 rfl) ?_
  refine lv_i2l hx hb dX8_save_2 rfl ?_
  refine lv_lconst (v := 0) hx hb dX8_save_3 (by decide) ?_
  refine lv_lconst (v := 1) hx hb dX8_save_4 (by decide) ?_
  refine ro_i (b2i (sX8_in p1.toInt64 (0 : Int64) (1 : Int64))) (run_c (va_runS (As := [.long p1.toInt64, .long (0 : Int64), .long (1 : Int64)]) (rest := [.ref (w 0)]) ⟨hx, hb, hml, hown, hts⟩ (c_X8_in l D cs p1.toInt64 (0 : Int64) (1 : Int64)) (cwS 3 hts (good_S w_ml_X8_42 w_st_X8_in w_in_X8 w_co_X8_in) rfl rfl rfl ⟨rfl, hd_X8_in⟩ ⟨Nat.le_of_ble_eq_true rfl, Nat.le_of_ble_eq_true rfl⟩) (pe_S (p_nil D _) hE) rfl rfl hl.1 rfl (lv_room (Nat.le_of_ble_eq_true rfl)) dX8_save_5 ⟨Nat.zero_le _, Nat.zero_le _⟩)) ?_
  refine join_i (J := 16) (ls := ls) (rest := [.ref (w 0)]) (b2i (if (sX8_in p1.toInt64 (0 : Int64) (1 : Int64)) = true then false else true)) ?_ (fun hJ => ?_)
  · refine w_b (refB (b2i (if (sX8_in p1.toInt64 (0 : Int64) (1 : Int64)) = true then false else true)), (msS M 0 (b2i (if (sX8_in p1.toInt64 (0 : Int64) (1 : Int64)) = true then false else true)))) (va_runV (As := [.int (b2i (if (sX8_in p1.toInt64 (0 : Int64) (1 : Int64)) = true then false else true))]) (rest := []) ⟨hx, hb, hml, hown, hts⟩ (c_X8_refused l D cs w M (b2i (if (sX8_in p1.toInt64 (0 : Int64) (1 : Int64)) = true then false else true)) hd) (cwV 1 hts (good_V w_ml_X8_105 w_im_X8_refused w_se_X8_refused w_in_X8 w_co_X8_refused) rfl rfl rfl ⟨rfl, hd_X8_refused⟩ ⟨Nat.le_of_ble_eq_true rfl, Nat.le_of_ble_eq_true rfl⟩) (pe_W (C := RX8) (T := TX8) (N := 14) (ci := 8) (q0 := 0) hP hE rfl rfl) rfl rfl hl.1 rfl (lv_room (Nat.le_of_ble_eq_true rfl)) dX8_save_16 ⟨Nat.zero_le _, Nat.zero_le _⟩) hS (fun _ _ h => h) (fun _ h => h) (fun t locs hB hz hk hS => ?_)
    have hP : va_P D vwC (mW cs w (msS M 0 (b2i (if (sX8_in p1.toInt64 (0 : Int64) (1 : Int64)) = true then false else true)))) t.heap := hB
    refine lv_if_eq (tgt := 24) hx hb dX8_save_19 (by decide) (fun c19 => ?_) (fun c19 => ?_)
    · have c19 := b2i_f c19
      have hv := (if_neg c19).symm.trans hv
      have f1 := iftb (b2i_f (rf0 c19))
      have f2 := in32 (n := 2) rfl f1.1
      refine lv_iconst (v := 0) hx hb dX8_save_24 (by decide) ?_
      refine lv_istore_n (lv' := [(2, .int 0), (0, .ref (w 0)), (1, .int p1)]) hx hb dX8_save_25 rfl hl (by decide) rfl (fun ls hl => ?_)
      have LOOP : ∀ (n : Nat) (x2 : Int32) (O9 : MS), upM 414 x2 < n → (¬ x2 < 0) → LX8_save_26 M p1 n x2 O9 = v → ∀ (H : Heap) (locs : List Loc), va_P D vwC (mW cs w O9) H → va_S (mA w) s.heap H locs → ∀ ls : Array Slot, lv_has ls 3 [(0, .ref (w 0)), (1, .int p1), (2, .int x2)] → W p l e ({ frames := 1, cells := 0, slots := 0, locals := 25 } : Room) s m args below meth c H locs 0 0 (MQ below (va_Qi (fun (r9 : Int32) (u : MS) => r9 = v.1 ∧ u = v.2) (fun u t => va_P D vwC (mW cs w u) t.heap) (mA w)) args s 0 0 (mA w)) (F0 m 26 ls []) := by
        clear hv
        intro n
        induction n with
        | zero => intro x2 O9 hm; exact absurd hm (Nat.not_lt_zero _)
        | succ n ih =>
          intro x2 O9 hm i0 hv H locs hP hS ls hl
          have hv := (LX8_save_26_eq M p1 n x2 O9).symm.trans hv
          refine lv_iload_n hx hb dX8_save_26 rfl (lv_at hl 2 rfl) ?_
          refine lv_sipush (v := 414) hx hb dX8_save_27 (by decide) ?_
          refine lv_icmp_ge (tgt := 57) hx hb dX8_save_30 (by decide) (fun c30 => ?_) (fun c30 => ?_)
          · have hv := (if_pos c30).symm.trans hv
            refine lv_aload_n hx hb dX8_save_57 rfl (lv_at hl 0 rfl) ?_
            refine va_get (D := D) (ci := 8) (v := .ref (w 6)) (C := RX8) (T := TX8) (N := 14) hx hb hts iw_X8 hown hK hP 0 rfl rfl 7 (by decide) (hts _ w_fl_X8_25) (fun _ h9 => h9) rfl dX8_save_58 ?_
            refine lv_iload_n hx hb dX8_save_61 rfl (lv_at hl 1 rfl) ?_
            refine lv_iconst (v := 1) hx hb dX8_save_62 (by decide) ?_
            refine va_zast (cA := cs 2) (n := 2) (f := (O9.1.2 6)) hx hb hK hP (m_D cs O9 hd) hS 6 2 rfl rfl f2 dX8_save_63 (fun H locs hP _ hS => ?_)
            have hP : va_P D vwC (mW cs w (msA O9 6 (upd (O9.1.2 6) p1.toNatClampNeg 1))) H := hP
            refine lv_aload_n hx hb dX8_save_64 rfl (lv_at hl 0 rfl) ?_
            refine va_get (D := D) (ci := 8) (v := .ref (w 1)) (C := RX8) (T := TX8) (N := 14) hx hb hts iw_X8 hown hK hP 0 rfl rfl 1 (by decide) (hts _ w_fl_X8_7) (fun _ h9 => h9) rfl dX8_save_65 ?_
            refine lv_iconst (v := 3) hx hb dX8_save_68 (by decide) ?_
            refine va_iald (cA := cs 0) (n := 414) (f := (O9.1.2 1)) hx hb hK hP 1 0 rfl rfl (by unfold vp_in; decide) dX8_save_69 ?_
            exact W.iret (v := (O9.1.2 1) (3 : Int32).toNatClampNeg) hx hb hr (fun t ht hW => ⟨⟨(O9.1.2 1) (3 : Int32).toNatClampNeg, (msA O9 6 (upd (O9.1.2 6) p1.toNatClampNeg 1)), rfl, pair_eq hv, pw ht hP⟩, hS.F ht⟩) hS.2.2 dX8_save_70 (hlocks := hlocks)
          · have hv := (if_neg c30).symm.trans hv
            refine lv_aload_n hx hb dX8_save_33 rfl (lv_at hl 0 rfl) ?_
            refine va_get (D := D) (ci := 8) (v := .ref (w 5)) (C := RX8) (T := TX8) (N := 14) hx hb hts iw_X8 hown hK hP 0 rfl rfl 6 (by decide) (hts _ w_fl_X8_22) (fun _ h9 => h9) rfl dX8_save_34 ?_
            refine lv_sipush (v := 414) hx hb dX8_save_37 (by decide) ?_
            refine lv_iload_n hx hb dX8_save_40 rfl (lv_at hl 1 rfl) ?_
            refine lv_imul hx hb dX8_save_41 ?_
            refine lv_iload_n hx hb dX8_save_42 rfl (lv_at hl 2 rfl) ?_
            refine lv_iadd hx hb dX8_save_43 ?_
            refine lv_aload_n hx hb dX8_save_44 rfl (lv_at hl 0 rfl) ?_
            refine va_get (D := D) (ci := 8) (v := .ref (w 1)) (C := RX8) (T := TX8) (N := 14) hx hb hts iw_X8 hown hK hP 0 rfl rfl 1 (by decide) (hts _ w_fl_X8_7) (fun _ h9 => h9) rfl dX8_save_45 ?_
            refine lv_iload_n hx hb dX8_save_48 rfl (lv_at hl 2 rfl) ?_
            refine va_iald (cA := cs 0) (n := 414) (f := (O9.1.2 1)) hx hb hK hP 1 0 rfl rfl (vp_a rfl i0 c30) dX8_save_49 ?_
            refine va_iast (cA := cs 0) (n := 828) (f := (O9.1.2 5)) hx hb hK hP (m_D cs O9 hd) hS 5 0 rfl rfl (bk_in (K := 2) (by decide) (by decide) f2 (vp_a rfl i0 c30)) dX8_save_50 (fun H locs hP _ hS => ?_)
            have hP : va_P D vwC (mW cs w (msA O9 5 (upd (O9.1.2 5) ((414 * p1) + x2).toNatClampNeg ((O9.1.2 1) x2.toNatClampNeg)))) H := hP
            refine lv_iinc (v := x2 + 1) (lv' := [(2, .int (x2 + 1)), (0, .ref (w 0)), (1, .int p1)]) hx hb dX8_save_51 hl (k := 2) rfl rfl (by decide) rfl (fun ls hl => ?_)
            refine lv_goto (tgt := 26) hx hb dX8_save_54 (by decide) ?_
            exact ih (x2 + 1) (msA O9 5 (upd (O9.1.2 5) ((414 * p1) + x2).toNatClampNeg ((O9.1.2 1) x2.toNatClampNeg))) (upM_s c30 hm) (nn_inc i0 c30) hv _ _ hP hS ls (lv_sub hl [1, 2, 0] rfl)
      exact LOOP _ 0 (msS M 0 (b2i (if (sX8_in p1.toInt64 (0 : Int64) (1 : Int64)) = true then false else true))) (Nat.lt_succ_self _) (by decide) hv _ _ hP hS ls (lv_sub hl [1, 2, 0] rfl)
    · have c19 := b2i_t c19
      have hv := (if_pos c19).symm.trans hv
      refine lv_iconst (v := 0) hx hb dX8_save_22 (by decide) ?_
      exact W.iret (v := 0) hx hb hr (fun t ht hW => ⟨⟨0, (msS M 0 (b2i (if (sX8_in p1.toInt64 (0 : Int64) (1 : Int64)) = true then false else true))), rfl, pair_eq hv, pw ht hP⟩, hS.F ht⟩) hS.2.2 dX8_save_23 (hlocks := hlocks)
  · refine lv_if_eq (tgt := 15) hx hb dX8_save_8 (by decide) (fun c8 => ?_) (fun c8 => ?_)
    · have c8 := b2i_f c8
      refine lv_iconst (v := 1) hx hb dX8_save_15 (by decide) ?_
      exact hJ _ (congrArg b2i ((if_neg c8).trans rfl))
    · have c8 := b2i_t c8
      refine lv_iconst (v := 0) hx hb dX8_save_11 (by decide) ?_
      refine lv_goto (tgt := 16) hx hb dX8_save_12 (by decide) ?_
      exact hJ _ (congrArg b2i ((if_pos c8).trans rfl))
theorem hd_X8_restore : yX8_restore.cls ≠ "java/lang/invoke/MethodHandle" ∧ yX8_restore.cls ≠ "java/lang/invoke/VarHandle" ∧ (parseMethodDescriptor yX8_restore.desc).map (fun d => d.parameters.length) = some 1 := by decide +kernel
def LX8_restore_39 (M : MS) (p1 : Int32) : Nat → Int32 → MS → Int32 × MS
  | 0 => fun _ _ => (0, M)
  | n + 1 => fun x2 O9 => (if 414 ≤ x2 then ((O9.1.2 1) (3 : Int32).toNatClampNeg, (msS O9 1 0)) else (LX8_restore_39 M p1 n (x2 + 1) (msA O9 1 (upd (O9.1.2 1) x2.toNatClampNeg ((O9.1.2 5) ((414 * p1) + x2).toNatClampNeg)))))
theorem LX8_restore_39_eq (M : MS) (p1 : Int32) (n : Nat) (x2 : Int32) (O9 : MS) : LX8_restore_39 M p1 (n + 1) x2 O9 = (if 414 ≤ x2 then ((O9.1.2 1) (3 : Int32).toNatClampNeg, (msS O9 1 0)) else (LX8_restore_39 M p1 n (x2 + 1) (msA O9 1 (upd (O9.1.2 1) x2.toNatClampNeg ((O9.1.2 5) ((414 * p1) + x2).toNatClampNeg))))) := rfl
def sX8_restore (M : MS) (p1 : Int32) : Int32 × MS := (if (refB (if (sX8_in p1.toInt64 (0 : Int64) (1 : Int64)) = true then (if ((M.1.2 6) p1.toNatClampNeg) = 0 then (2 : Int32) else (0 : Int32)) else (1 : Int32))) = true then (0, (msS M 0 (if (sX8_in p1.toInt64 (0 : Int64) (1 : Int64)) = true then (if ((M.1.2 6) p1.toNatClampNeg) = 0 then (2 : Int32) else (0 : Int32)) else (1 : Int32)))) else (LX8_restore_39 M p1 (upM 414 0 + 1) 0 (msS M 0 (if (sX8_in p1.toInt64 (0 : Int64) (1 : Int64)) = true then (if ((M.1.2 6) p1.toNatClampNeg) = 0 then (2 : Int32) else (0 : Int32)) else (1 : Int32)))))
set_option maxHeartbeats 4000000 in
set_option maxRecDepth 100000 in
theorem c_X8_restore (l : Launch) (D : va_G) (cs : Nat → ClassId) (w : Nat → Nat) (M : MS) (p1 : Int32) (hd : mD w) : Met l yX8_restore (wc yX8_restore cX8_restore 3 (some .int)) ({ frames := 1, cells := 0, slots := 0, locals := 25 } : Room) (va_Pc [.ref (w 0), .int p1] (PE D cs (mW cs w M))) (va_Qi (fun (r9 : Int32) (u : MS) => r9 = (sX8_restore M p1).1 ∧ u = (sX8_restore M p1).2) (fun u t => va_P D vwC (mW cs w u) t.heap) (mA w)) 0 0 (mA w) := by
  obtain ⟨v, hv⟩ : ∃ v, sX8_restore M p1 = v := ⟨_, rfl⟩
  rw [hv]
  refine met_o (lv := [(0, .ref (w 0)), (1, .int p1)]) (by decide) (Nat.le_of_ble_eq_true rfl) rfl ?_
  intro p e s m args below meth c ls hx hb hr hml hts hown hlocks hin hP hE hl
  have hown : s.vm.findClass RX8 = some m.cls := hown
  have hK := hE.1
  have hP : va_P D vwC (mW cs w M) s.heap := hP
  have hS : va_S (mA w) s.heap s.heap [] := va_S.rf
  unfold sX8_restore at hv
  refine lv_aload_n hx hb dX8_restore_0 rfl (lv_at hl 0 rfl) ?_
  refine lv_iload_n hx hb dX8_restore_1 rfl (lv_at hl 1 rfl) ?_
  refine lv_i2l hx hb dX8_restore_2 rfl ?_
  refine lv_lconst (v := 0) hx hb dX8_restore_3 (by decide) ?_
  refine lv_lconst (v := 1) hx hb dX8_restore_4 (by decide) ?_
  refine ro_i (b2i (sX8_in p1.toInt64 (0 : Int64) (1 : Int64))) (run_c (va_runS (As := [.long p1.toInt64, .long (0 : Int64), .long (1 : Int64)]) (rest := [.ref (w 0)]) ⟨hx, hb, hml, hown, hts⟩ (c_X8_in l D cs p1.toInt64 (0 : Int64) (1 : Int64)) (cwS 3 hts (good_S w_ml_X8_42 w_st_X8_in w_in_X8 w_co_X8_in) rfl rfl rfl ⟨rfl, hd_X8_in⟩ ⟨Nat.le_of_ble_eq_true rfl, Nat.le_of_ble_eq_true rfl⟩) (pe_S (p_nil D _) hE) rfl rfl hl.1 rfl (lv_room (Nat.le_of_ble_eq_true rfl)) dX8_restore_5 ⟨Nat.zero_le _, Nat.zero_le _⟩)) ?_
  refine join_i (J := 29) (ls := ls) (rest := [.ref (w 0)]) ((if (sX8_in p1.toInt64 (0 : Int64) (1 : Int64)) = true then (if ((M.1.2 6) p1.toNatClampNeg) = 0 then (2 : Int32) else (0 : Int32)) else (1 : Int32))) ?_ (fun hJ => ?_)
  · refine w_b (refB (if (sX8_in p1.toInt64 (0 : Int64) (1 : Int64)) = true then (if ((M.1.2 6) p1.toNatClampNeg) = 0 then (2 : Int32) else (0 : Int32)) else (1 : Int32)), (msS M 0 (if (sX8_in p1.toInt64 (0 : Int64) (1 : Int64)) = true then (if ((M.1.2 6) p1.toNatClampNeg) = 0 then (2 : Int32) else (0 : Int32)) else (1 : Int32)))) (va_runV (As := [.int (if (sX8_in p1.toInt64 (0 : Int64) (1 : Int64)) = true then (if ((M.1.2 6) p1.toNatClampNeg) = 0 then (2 : Int32) else (0 : Int32)) else (1 : Int32))]) (rest := []) ⟨hx, hb, hml, hown, hts⟩ (c_X8_refused l D cs w M (if (sX8_in p1.toInt64 (0 : Int64) (1 : Int64)) = true then (if ((M.1.2 6) p1.toNatClampNeg) = 0 then (2 : Int32) else (0 : Int32)) else (1 : Int32)) hd) (cwV 1 hts (good_V w_ml_X8_105 w_im_X8_refused w_se_X8_refused w_in_X8 w_co_X8_refused) rfl rfl rfl ⟨rfl, hd_X8_refused⟩ ⟨Nat.le_of_ble_eq_true rfl, Nat.le_of_ble_eq_true rfl⟩) (pe_W (C := RX8) (T := TX8) (N := 14) (ci := 8) (q0 := 0) hP hE rfl rfl) rfl rfl hl.1 rfl (lv_room (Nat.le_of_ble_eq_true rfl)) dX8_restore_29 ⟨Nat.zero_le _, Nat.zero_le _⟩) hS (fun _ _ h => h) (fun _ h => h) (fun t locs hB hz hk hS => ?_)
    have hP : va_P D vwC (mW cs w (msS M 0 (if (sX8_in p1.toInt64 (0 : Int64) (1 : Int64)) = true then (if ((M.1.2 6) p1.toNatClampNeg) = 0 then (2 : Int32) else (0 : Int32)) else (1 : Int32)))) t.heap := hB
    refine lv_if_eq (tgt := 37) hx hb dX8_restore_32 (by decide) (fun c32 => ?_) (fun c32 => ?_)
    · have c32 := b2i_f c32
      have hv := (if_neg c32).symm.trans hv
      have f1 := ift (by decide) (rf0 c32)
      have f2 := in32 (n := 2) rfl f1.1
      refine lv_iconst (v := 0) hx hb dX8_restore_37 (by decide) ?_
      refine lv_istore_n (lv' := [(2, .int 0), (0, .ref (w 0)), (1, .int p1)]) hx hb dX8_restore_38 rfl hl (by decide) rfl (fun ls hl => ?_)
      have LOOP : ∀ (n : Nat) (x2 : Int32) (O9 : MS), upM 414 x2 < n → (¬ x2 < 0) → LX8_restore_39 M p1 n x2 O9 = v → ∀ (H : Heap) (locs : List Loc), va_P D vwC (mW cs w O9) H → va_S (mA w) s.heap H locs → ∀ ls : Array Slot, lv_has ls 3 [(0, .ref (w 0)), (1, .int p1), (2, .int x2)] → W p l e ({ frames := 1, cells := 0, slots := 0, locals := 25 } : Room) s m args below meth c H locs 0 0 (MQ below (va_Qi (fun (r9 : Int32) (u : MS) => r9 = v.1 ∧ u = v.2) (fun u t => va_P D vwC (mW cs w u) t.heap) (mA w)) args s 0 0 (mA w)) (F0 m 39 ls []) := by
        clear hv
        intro n
        induction n with
        | zero => intro x2 O9 hm; exact absurd hm (Nat.not_lt_zero _)
        | succ n ih =>
          intro x2 O9 hm i0 hv H locs hP hS ls hl
          have hv := (LX8_restore_39_eq M p1 n x2 O9).symm.trans hv
          refine lv_iload_n hx hb dX8_restore_39 rfl (lv_at hl 2 rfl) ?_
          refine lv_sipush (v := 414) hx hb dX8_restore_40 (by decide) ?_
          refine lv_icmp_ge (tgt := 70) hx hb dX8_restore_43 (by decide) (fun c43 => ?_) (fun c43 => ?_)
          · have hv := (if_pos c43).symm.trans hv
            refine lv_aload_n hx hb dX8_restore_70 rfl (lv_at hl 0 rfl) ?_
            refine lv_iconst (v := 0) hx hb dX8_restore_71 (by decide) ?_
            refine va_put (D := D) (ci := 8) (v := .int 0) (ty := .int) (C := RX8) (T := TX8) (N := 14) hx hb hts iw_X8 tyX8 tyX8_ok nmX8 hown hK hP (m_D cs O9 hd) hS 0 rfl rfl 5 (by decide) (hts _ w_fl_X8_97) (fun _ h9 => h9) rfl (by decide +kernel) rfl rfl (Nat.le_of_ble_eq_true rfl) dX8_restore_72 (fun H locs hP _ hS => ?_)
            have hP : va_P D vwC (mW cs w (msS O9 1 0)) H := hP
            refine lv_aload_n hx hb dX8_restore_75 rfl (lv_at hl 0 rfl) ?_
            refine va_get (D := D) (ci := 8) (v := .ref (w 1)) (C := RX8) (T := TX8) (N := 14) hx hb hts iw_X8 hown hK hP 0 rfl rfl 1 (by decide) (hts _ w_fl_X8_7) (fun _ h9 => h9) rfl dX8_restore_76 ?_
            refine lv_iconst (v := 3) hx hb dX8_restore_79 (by decide) ?_
            refine va_iald (cA := cs 0) (n := 414) (f := (O9.1.2 1)) hx hb hK hP 1 0 rfl rfl (by unfold vp_in; decide) dX8_restore_80 ?_
            exact W.iret (v := (O9.1.2 1) (3 : Int32).toNatClampNeg) hx hb hr (fun t ht hW => ⟨⟨(O9.1.2 1) (3 : Int32).toNatClampNeg, (msS O9 1 0), rfl, pair_eq hv, pw ht hP⟩, hS.F ht⟩) hS.2.2 dX8_restore_81 (hlocks := hlocks)
          · have hv := (if_neg c43).symm.trans hv
            refine lv_aload_n hx hb dX8_restore_46 rfl (lv_at hl 0 rfl) ?_
            refine va_get (D := D) (ci := 8) (v := .ref (w 1)) (C := RX8) (T := TX8) (N := 14) hx hb hts iw_X8 hown hK hP 0 rfl rfl 1 (by decide) (hts _ w_fl_X8_7) (fun _ h9 => h9) rfl dX8_restore_47 ?_
            refine lv_iload_n hx hb dX8_restore_50 rfl (lv_at hl 2 rfl) ?_
            refine lv_aload_n hx hb dX8_restore_51 rfl (lv_at hl 0 rfl) ?_
            refine va_get (D := D) (ci := 8) (v := .ref (w 5)) (C := RX8) (T := TX8) (N := 14) hx hb hts iw_X8 hown hK hP 0 rfl rfl 6 (by decide) (hts _ w_fl_X8_22) (fun _ h9 => h9) rfl dX8_restore_52 ?_
            refine lv_sipush (v := 414) hx hb dX8_restore_55 (by decide) ?_
            refine lv_iload_n hx hb dX8_restore_58 rfl (lv_at hl 1 rfl) ?_
            refine lv_imul hx hb dX8_restore_59 ?_
            refine lv_iload_n hx hb dX8_restore_60 rfl (lv_at hl 2 rfl) ?_
            refine lv_iadd hx hb dX8_restore_61 ?_
            refine va_iald (cA := cs 0) (n := 828) (f := (O9.1.2 5)) hx hb hK hP 5 0 rfl rfl (bk_in (K := 2) (by decide) (by decide) f2 (vp_a rfl i0 c43)) dX8_restore_62 ?_
            refine va_iast (cA := cs 0) (n := 414) (f := (O9.1.2 1)) hx hb hK hP (m_D cs O9 hd) hS 1 0 rfl rfl (vp_a rfl i0 c43) dX8_restore_63 (fun H locs hP _ hS => ?_)
            have hP : va_P D vwC (mW cs w (msA O9 1 (upd (O9.1.2 1) x2.toNatClampNeg ((O9.1.2 5) ((414 * p1) + x2).toNatClampNeg)))) H := hP
            refine lv_iinc (v := x2 + 1) (lv' := [(2, .int (x2 + 1)), (0, .ref (w 0)), (1, .int p1)]) hx hb dX8_restore_64 hl (k := 2) rfl rfl (by decide) rfl (fun ls hl => ?_)
            refine lv_goto (tgt := 39) hx hb dX8_restore_67 (by decide) ?_
            exact ih (x2 + 1) (msA O9 1 (upd (O9.1.2 1) x2.toNatClampNeg ((O9.1.2 5) ((414 * p1) + x2).toNatClampNeg))) (upM_s c43 hm) (nn_inc i0 c43) hv _ _ hP hS ls (lv_sub hl [1, 2, 0] rfl)
      exact LOOP _ 0 (msS M 0 (if (sX8_in p1.toInt64 (0 : Int64) (1 : Int64)) = true then (if ((M.1.2 6) p1.toNatClampNeg) = 0 then (2 : Int32) else (0 : Int32)) else (1 : Int32))) (Nat.lt_succ_self _) (by decide) hv _ _ hP hS ls (lv_sub hl [1, 2, 0] rfl)
    · have c32 := b2i_t c32
      have hv := (if_pos c32).symm.trans hv
      refine lv_iconst (v := 0) hx hb dX8_restore_35 (by decide) ?_
      exact W.iret (v := 0) hx hb hr (fun t ht hW => ⟨⟨0, (msS M 0 (if (sX8_in p1.toInt64 (0 : Int64) (1 : Int64)) = true then (if ((M.1.2 6) p1.toNatClampNeg) = 0 then (2 : Int32) else (0 : Int32)) else (1 : Int32))), rfl, pair_eq hv, pw ht hP⟩, hS.F ht⟩) hS.2.2 dX8_restore_36 (hlocks := hlocks)
  · refine lv_if_ne (tgt := 15) hx hb dX8_restore_8 (by decide) (fun c8 => ?_) (fun c8 => ?_)
    · have c8 := b2i_t c8
      have f0 := in32 (n := 2) rfl c8
      refine lv_aload_n hx hb dX8_restore_15 rfl (lv_at hl 0 rfl) ?_
      refine va_get (D := D) (ci := 8) (v := .ref (w 6)) (C := RX8) (T := TX8) (N := 14) hx hb hts iw_X8 hown hK hP 0 rfl rfl 7 (by decide) (hts _ w_fl_X8_25) (fun _ h9 => h9) rfl dX8_restore_16 ?_
      refine lv_iload_n hx hb dX8_restore_19 rfl (lv_at hl 1 rfl) ?_
      refine va_zald (cA := cs 2) (n := 2) (f := (M.1.2 6)) hx hb hK hP 6 2 rfl rfl f0 dX8_restore_20 ?_
      refine lv_if_ne (tgt := 28) hx hb dX8_restore_21 (by decide) (fun c21 => ?_) (fun c21 => ?_)
      · refine lv_iconst (v := 0) hx hb dX8_restore_28 (by decide) ?_
        exact hJ _ ((if_pos c8).trans ((if_neg c21).trans rfl))
      · refine lv_iconst (v := 2) hx hb dX8_restore_24 (by decide) ?_
        refine lv_goto (tgt := 29) hx hb dX8_restore_25 (by decide) ?_
        exact hJ _ ((if_pos c8).trans ((if_pos c21).trans rfl))
    · have c8 := b2i_f c8
      refine lv_iconst (v := 1) hx hb dX8_restore_11 (by decide) ?_
      refine lv_goto (tgt := 29) hx hb dX8_restore_12 (by decide) ?_
      exact hJ _ ((if_neg c8).trans rfl)
