theorem RI_start {M : MS} {f : Nat → Int32} (hl : 0 ≤ (M.1.1 2).toInt ∧ (M.1.1 2).toInt ≤ 120) (hf : MV f) : RI (msA (msS (msG (msS M 3 0) true) 5 0) 3 f) := by
  have z : (0 : Int32).toInt = 0 := rfl
  have e3 : (msA (msS (msG (msS M 3 0) true) 5 0) 3 f).1.1 3 = 0 := rfl
  have e2 : (msA (msS (msG (msS M 3 0) true) 5 0) 3 f).1.1 2 = M.1.1 2 := rfl
  unfold RI
  rw [e3, e2, z]
  exact ⟨⟨Int.le_refl _, hl.1, hl.2⟩, hf⟩
theorem hd_X8_readOrder : yX8_readOrder.cls ≠ "java/lang/invoke/MethodHandle" ∧ yX8_readOrder.cls ≠ "java/lang/invoke/VarHandle" ∧ (parseMethodDescriptor yX8_readOrder.desc).map (fun d => d.parameters.length) = some 0 := by decide +kernel
def sX8_readOrder (M : MS) : MS := (if (sX8_here M) = 100 then ((sX8_readDraw M)) else (if (sX8_here M) = 112 then ((sX8_readPrint M)) else (if (sX8_here M) = 114 then (if (sX8_here ((sX8_take M true))) = 101 then ((sX8_readRevise ((sX8_take ((sX8_take M true)) true)))) else ((sX8_readRun ((sX8_take ((sX8_take M true)) (if (sX8_here ((sX8_take M true))) = 117 then true else false)))))) else (if (sX8_here M) = 115 then ((sX8_readStamp M)) else (msG M false)))))
set_option maxHeartbeats 4000000 in
set_option maxRecDepth 100000 in
theorem c_X8_readOrder (l : Launch) (D : va_G) (cs : Nat → ClassId) (w : Nat → Nat) (M : MS) (hd : mD w) (hri : RI M) : Met l yX8_readOrder (wc yX8_readOrder cX8_readOrder 1 none) ({ frames := 6, cells := 0, slots := 0, locals := 131 } : Room) (va_Pc [.ref (w 0)] (PE D cs (mW cs w M))) (va_Qv (fun u : MS => u = (sX8_readOrder M)) (fun u t => va_P D vwC (mW cs w u) t.heap) (mA w)) 0 0 (mA w) := by
  obtain ⟨v, hv⟩ : ∃ v, sX8_readOrder M = v := ⟨_, rfl⟩
  rw [hv]
  refine met_o (lv := [(0, .ref (w 0))]) (by decide) (Nat.le_of_ble_eq_true rfl) rfl ?_
  intro p e s m args below meth c ls hx hb hr hml hts hown hlocks hin hP hE hl
  have hown : s.vm.findClass RX8 = some m.cls := hown
  have hK := hE.1
  have hP : va_P D vwC (mW cs w M) s.heap := hP
  have hS : va_S (mA w) s.heap s.heap [] := va_S.rf
  unfold sX8_readOrder at hv
  refine lv_aload_n hx hb dX8_readOrder_0 rfl (lv_at hl 0 rfl) ?_
  refine ro_i (sX8_here M) (run_c (va_runV (As := []) (rest := []) ⟨hx, hb, hml, hown, hts⟩ (c_X8_here l D cs w M hri) (cwV 0 hts (good_V w_ml_X8_116 w_im_X8_here w_se_X8_here w_in_X8 w_co_X8_here) rfl rfl rfl ⟨rfl, hd_X8_here⟩ ⟨Nat.le_of_ble_eq_true rfl, Nat.le_of_ble_eq_true rfl⟩) (pe_W (C := RX8) (T := TX8) (N := 14) (ci := 8) (q0 := 0) hP hE rfl rfl) rfl rfl hl.1 rfl (lv_room (Nat.le_of_ble_eq_true rfl)) dX8_readOrder_1 ⟨Nat.zero_le _, Nat.zero_le _⟩)) ?_
  by_cases c4_0 : (sX8_here M) = 100
  · have hv := (if_pos c4_0).symm.trans hv
    refine lv_lookup (off := 44) (tgt := 48) hx hb dX8_readOrder_4 (by decide) (by rw [c4_0]; rfl) (by decide) ?_
    refine lv_aload_n hx hb dX8_readOrder_48 rfl (lv_at hl 0 rfl) ?_
    obtain ⟨G49, hG49⟩ : ∃ G, sX8_readDraw M = G := ⟨_, rfl⟩
    have k49 := (c_X8_readDraw l D cs w M hd hri)
    rw [hG49] at k49
    rw [hG49] at hv
    refine w_v (G49) (va_runV (As := []) (rest := []) ⟨hx, hb, hml, hown, hts⟩ k49 (cwV 0 hts (good_V w_ml_X8_187 w_im_X8_readDraw w_se_X8_readDraw w_in_X8 w_co_X8_readDraw) rfl rfl rfl ⟨rfl, hd_X8_readDraw⟩ ⟨Nat.le_of_ble_eq_true rfl, Nat.le_of_ble_eq_true rfl⟩) (pe_W (C := RX8) (T := TX8) (N := 14) (ci := 8) (q0 := 0) hP hE rfl rfl) rfl rfl hl.1 rfl (lv_room (Nat.le_of_ble_eq_true rfl)) dX8_readOrder_49 ⟨Nat.zero_le _, Nat.zero_le _⟩) hS (fun _ _ h => h) (fun _ h => h) (fun t locs hB hz hk hS => ?_)
    have hP : va_P D vwC (mW cs w (G49)) t.heap := hB
    refine lv_goto (tgt := 125) hx hb dX8_readOrder_52 (by decide) ?_
    exact W.vret hx hb hr (fun t ht hW => ⟨⟨(G49), rfl, hv, pw ht hP⟩, hS.F ht⟩) hS.2.2 dX8_readOrder_125 (hlocks := hlocks)
  · have hv := (if_neg c4_0).symm.trans hv
    by_cases c4_1 : (sX8_here M) = 112
    · have hv := (if_pos c4_1).symm.trans hv
      refine lv_lookup (off := 51) (tgt := 55) hx hb dX8_readOrder_4 (by decide) (by rw [c4_1]; rfl) (by decide) ?_
      refine lv_aload_n hx hb dX8_readOrder_55 rfl (lv_at hl 0 rfl) ?_
      obtain ⟨G56, hG56⟩ : ∃ G, sX8_readPrint M = G := ⟨_, rfl⟩
      have k56 := (c_X8_readPrint l D cs w M hd hri)
      rw [hG56] at k56
      rw [hG56] at hv
      refine w_v (G56) (va_runV (As := []) (rest := []) ⟨hx, hb, hml, hown, hts⟩ k56 (cwV 0 hts (good_V w_ml_X8_190 w_im_X8_readPrint w_se_X8_readPrint w_in_X8 w_co_X8_readPrint) rfl rfl rfl ⟨rfl, hd_X8_readPrint⟩ ⟨Nat.le_of_ble_eq_true rfl, Nat.le_of_ble_eq_true rfl⟩) (pe_W (C := RX8) (T := TX8) (N := 14) (ci := 8) (q0 := 0) hP hE rfl rfl) rfl rfl hl.1 rfl (lv_room (Nat.le_of_ble_eq_true rfl)) dX8_readOrder_56 ⟨Nat.zero_le _, Nat.zero_le _⟩) hS (fun _ _ h => h) (fun _ h => h) (fun t locs hB hz hk hS => ?_)
      have hP : va_P D vwC (mW cs w (G56)) t.heap := hB
      refine lv_goto (tgt := 125) hx hb dX8_readOrder_59 (by decide) ?_
      exact W.vret hx hb hr (fun t ht hW => ⟨⟨(G56), rfl, hv, pw ht hP⟩, hS.F ht⟩) hS.2.2 dX8_readOrder_125 (hlocks := hlocks)
    · have hv := (if_neg c4_1).symm.trans hv
      by_cases c4_2 : (sX8_here M) = 114
      · have hv := (if_pos c4_2).symm.trans hv
        refine lv_lookup (off := 65) (tgt := 69) hx hb dX8_readOrder_4 (by decide) (by rw [c4_2]; rfl) (by decide) ?_
        refine lv_aload_n hx hb dX8_readOrder_69 rfl (lv_at hl 0 rfl) ?_
        refine lv_iconst (v := 1) hx hb dX8_readOrder_70 (by decide) ?_
        obtain ⟨G71, hG71⟩ : ∃ G, sX8_take M true = G := ⟨_, rfl⟩
        have k71 := (c_X8_take l D cs w M true hd)
        rw [hG71] at k71
        rw [hG71] at hv
        refine w_v (G71) (va_runV (As := [.int (b2i true)]) (rest := []) ⟨hx, hb, hml, hown, hts⟩ k71 (cwV 1 hts (good_V w_ml_X8_120 w_im_X8_take w_se_X8_take w_in_X8 w_co_X8_take) rfl rfl rfl ⟨rfl, hd_X8_take⟩ ⟨Nat.le_of_ble_eq_true rfl, Nat.le_of_ble_eq_true rfl⟩) (pe_W (C := RX8) (T := TX8) (N := 14) (ci := 8) (q0 := 0) hP hE rfl rfl) rfl rfl hl.1 rfl (lv_room (Nat.le_of_ble_eq_true rfl)) dX8_readOrder_71 ⟨Nat.zero_le _, Nat.zero_le _⟩) hS (fun _ _ h => h) (fun _ h => h) (fun t locs hB hz hk hS => ?_)
        have hP : va_P D vwC (mW cs w (G71)) t.heap := hB
        have g71 : RI G71 := by rw [← hG71]; exact (PR_take hri (fun _ => here_l c4_2 (by decide))).1
        refine lv_aload_n hx hb dX8_readOrder_74 rfl (lv_at hl 0 rfl) ?_
        refine ro_i (sX8_here (G71)) (run_c (va_runV (As := []) (rest := []) ⟨hx, hb, hml, hown, hts⟩ (c_X8_here l D cs w (G71) g71) (cwV 0 hts (good_V w_ml_X8_116 w_im_X8_here w_se_X8_here w_in_X8 w_co_X8_here) rfl rfl rfl ⟨rfl, hd_X8_here⟩ ⟨Nat.le_of_ble_eq_true rfl, Nat.le_of_ble_eq_true rfl⟩) (pe_W (C := RX8) (T := TX8) (N := 14) (ci := 8) (q0 := 0) hP hE rfl rfl) rfl rfl hl.1 rfl (lv_room (Nat.le_of_ble_eq_true rfl)) dX8_readOrder_75 ⟨Nat.zero_le _, Nat.zero_le _⟩)) ?_
        refine lv_bipush (v := 101) hx hb dX8_readOrder_78 (by decide) ?_
        refine lv_icmp_ne (tgt := 95) hx hb dX8_readOrder_80 (by decide) (fun c80 => ?_) (fun c80 => ?_)
        · have hv := (if_neg c80).symm.trans hv
          refine lv_aload_n hx hb dX8_readOrder_95 rfl (lv_at hl 0 rfl) ?_
          refine lv_aload_n hx hb dX8_readOrder_96 rfl (lv_at hl 0 rfl) ?_
          refine ro_i (sX8_here (G71)) (run_c (va_runV (As := []) (rest := [.ref (w 0)]) ⟨hx, hb, hml, hown, hts⟩ (c_X8_here l D cs w (G71) g71) (cwV 0 hts (good_V w_ml_X8_116 w_im_X8_here w_se_X8_here w_in_X8 w_co_X8_here) rfl rfl rfl ⟨rfl, hd_X8_here⟩ ⟨Nat.le_of_ble_eq_true rfl, Nat.le_of_ble_eq_true rfl⟩) (pe_W (C := RX8) (T := TX8) (N := 14) (ci := 8) (q0 := 0) hP hE rfl rfl) rfl rfl hl.1 rfl (lv_room (Nat.le_of_ble_eq_true rfl)) dX8_readOrder_97 ⟨Nat.zero_le _, Nat.zero_le _⟩)) ?_
          refine lv_bipush (v := 117) hx hb dX8_readOrder_100 (by decide) ?_
          refine join_i (J := 110) (ls := ls) (rest := [.ref (w 0)]) (b2i (if (sX8_here (G71)) = 117 then true else false)) ?_ (fun hJ => ?_)
          · obtain ⟨G110, hG110⟩ : ∃ G, sX8_take (G71) (if (sX8_here (G71)) = 117 then true else false) = G := ⟨_, rfl⟩
            have k110 := (c_X8_take l D cs w (G71) (if (sX8_here (G71)) = 117 then true else false) hd)
            rw [hG110] at k110
            rw [hG110] at hv
            refine w_v (G110) (va_runV (As := [.int (b2i (if (sX8_here (G71)) = 117 then true else false))]) (rest := []) ⟨hx, hb, hml, hown, hts⟩ k110 (cwV 1 hts (good_V w_ml_X8_120 w_im_X8_take w_se_X8_take w_in_X8 w_co_X8_take) rfl rfl rfl ⟨rfl, hd_X8_take⟩ ⟨Nat.le_of_ble_eq_true rfl, Nat.le_of_ble_eq_true rfl⟩) (pe_W (C := RX8) (T := TX8) (N := 14) (ci := 8) (q0 := 0) hP hE rfl rfl) rfl rfl hl.1 rfl (lv_room (Nat.le_of_ble_eq_true rfl)) dX8_readOrder_110 ⟨Nat.zero_le _, Nat.zero_le _⟩) hS (fun _ _ h => h) (fun _ h => h) (fun t locs hB hz hk hS => ?_)
            have hP : va_P D vwC (mW cs w (G110)) t.heap := hB
            have g110 : RI G110 := by rw [← hG110]; exact (PR_th g71 (by decide)).1
            refine lv_aload_n hx hb dX8_readOrder_113 rfl (lv_at hl 0 rfl) ?_
            obtain ⟨G114, hG114⟩ : ∃ G, sX8_readRun (G110) = G := ⟨_, rfl⟩
            have k114 := (c_X8_readRun l D cs w (G110) hd g110)
            rw [hG114] at k114
            rw [hG114] at hv
            refine w_v (G114) (va_runV (As := []) (rest := []) ⟨hx, hb, hml, hown, hts⟩ k114 (cwV 0 hts (good_V w_ml_X8_199 w_im_X8_readRun w_se_X8_readRun w_in_X8 w_co_X8_readRun) rfl rfl rfl ⟨rfl, hd_X8_readRun⟩ ⟨Nat.le_of_ble_eq_true rfl, Nat.le_of_ble_eq_true rfl⟩) (pe_W (C := RX8) (T := TX8) (N := 14) (ci := 8) (q0 := 0) hP hE rfl rfl) rfl rfl hl.1 rfl (lv_room (Nat.le_of_ble_eq_true rfl)) dX8_readOrder_114 ⟨Nat.zero_le _, Nat.zero_le _⟩) hS (fun _ _ h => h) (fun _ h => h) (fun t locs hB hz hk hS => ?_)
            have hP : va_P D vwC (mW cs w (G114)) t.heap := hB
            refine lv_goto (tgt := 125) hx hb dX8_readOrder_117 (by decide) ?_
            exact W.vret hx hb hr (fun t ht hW => ⟨⟨(G114), rfl, hv, pw ht hP⟩, hS.F ht⟩) hS.2.2 dX8_readOrder_125 (hlocks := hlocks)
          · refine lv_icmp_ne (tgt := 109) hx hb dX8_readOrder_102 (by decide) (fun c102 => ?_) (fun c102 => ?_)
            · refine lv_iconst (v := 0) hx hb dX8_readOrder_109 (by decide) ?_
              exact hJ _ (congrArg b2i ((if_neg c102).trans rfl))
            · refine lv_iconst (v := 1) hx hb dX8_readOrder_105 (by decide) ?_
              refine lv_goto (tgt := 110) hx hb dX8_readOrder_106 (by decide) ?_
              exact hJ _ (congrArg b2i ((if_pos c102).trans rfl))
        · have hv := (if_pos c80).symm.trans hv
          refine lv_aload_n hx hb dX8_readOrder_83 rfl (lv_at hl 0 rfl) ?_
          refine lv_iconst (v := 1) hx hb dX8_readOrder_84 (by decide) ?_
          obtain ⟨G85, hG85⟩ : ∃ G, sX8_take (G71) true = G := ⟨_, rfl⟩
          have k85 := (c_X8_take l D cs w (G71) true hd)
          rw [hG85] at k85
          rw [hG85] at hv
          refine w_v (G85) (va_runV (As := [.int (b2i true)]) (rest := []) ⟨hx, hb, hml, hown, hts⟩ k85 (cwV 1 hts (good_V w_ml_X8_120 w_im_X8_take w_se_X8_take w_in_X8 w_co_X8_take) rfl rfl rfl ⟨rfl, hd_X8_take⟩ ⟨Nat.le_of_ble_eq_true rfl, Nat.le_of_ble_eq_true rfl⟩) (pe_W (C := RX8) (T := TX8) (N := 14) (ci := 8) (q0 := 0) hP hE rfl rfl) rfl rfl hl.1 rfl (lv_room (Nat.le_of_ble_eq_true rfl)) dX8_readOrder_85 ⟨Nat.zero_le _, Nat.zero_le _⟩) hS (fun _ _ h => h) (fun _ h => h) (fun t locs hB hz hk hS => ?_)
          have hP : va_P D vwC (mW cs w (G85)) t.heap := hB
          have g85 : RI G85 := by rw [← hG85]; exact (PR_take g71 (fun _ => here_l c80 (by decide))).1
          refine lv_aload_n hx hb dX8_readOrder_88 rfl (lv_at hl 0 rfl) ?_
          obtain ⟨G89, hG89⟩ : ∃ G, sX8_readRevise (G85) = G := ⟨_, rfl⟩
          have k89 := (c_X8_readRevise l D cs w (G85) hd g85)
          rw [hG89] at k89
          rw [hG89] at hv
          refine w_v (G89) (va_runV (As := []) (rest := []) ⟨hx, hb, hml, hown, hts⟩ k89 (cwV 0 hts (good_V w_ml_X8_196 w_im_X8_readRevise w_se_X8_readRevise w_in_X8 w_co_X8_readRevise) rfl rfl rfl ⟨rfl, hd_X8_readRevise⟩ ⟨Nat.le_of_ble_eq_true rfl, Nat.le_of_ble_eq_true rfl⟩) (pe_W (C := RX8) (T := TX8) (N := 14) (ci := 8) (q0 := 0) hP hE rfl rfl) rfl rfl hl.1 rfl (lv_room (Nat.le_of_ble_eq_true rfl)) dX8_readOrder_89 ⟨Nat.zero_le _, Nat.zero_le _⟩) hS (fun _ _ h => h) (fun _ h => h) (fun t locs hB hz hk hS => ?_)
          have hP : va_P D vwC (mW cs w (G89)) t.heap := hB
          refine lv_goto (tgt := 125) hx hb dX8_readOrder_92 (by decide) ?_
          exact W.vret hx hb hr (fun t ht hW => ⟨⟨(G89), rfl, hv, pw ht hP⟩, hS.F ht⟩) hS.2.2 dX8_readOrder_125 (hlocks := hlocks)
      · have hv := (if_neg c4_2).symm.trans hv
        by_cases c4_3 : (sX8_here M) = 115
        · have hv := (if_pos c4_3).symm.trans hv
          refine lv_lookup (off := 58) (tgt := 62) hx hb dX8_readOrder_4 (by decide) (by rw [c4_3]; rfl) (by decide) ?_
          refine lv_aload_n hx hb dX8_readOrder_62 rfl (lv_at hl 0 rfl) ?_
          obtain ⟨G63, hG63⟩ : ∃ G, sX8_readStamp M = G := ⟨_, rfl⟩
          have k63 := (c_X8_readStamp l D cs w M hd hri)
          rw [hG63] at k63
          rw [hG63] at hv
          refine w_v (G63) (va_runV (As := []) (rest := []) ⟨hx, hb, hml, hown, hts⟩ k63 (cwV 0 hts (good_V w_ml_X8_193 w_im_X8_readStamp w_se_X8_readStamp w_in_X8 w_co_X8_readStamp) rfl rfl rfl ⟨rfl, hd_X8_readStamp⟩ ⟨Nat.le_of_ble_eq_true rfl, Nat.le_of_ble_eq_true rfl⟩) (pe_W (C := RX8) (T := TX8) (N := 14) (ci := 8) (q0 := 0) hP hE rfl rfl) rfl rfl hl.1 rfl (lv_room (Nat.le_of_ble_eq_true rfl)) dX8_readOrder_63 ⟨Nat.zero_le _, Nat.zero_le _⟩) hS (fun _ _ h => h) (fun _ h => h) (fun t locs hB hz hk hS => ?_)
          have hP : va_P D vwC (mW cs w (G63)) t.heap := hB
          refine lv_goto (tgt := 125) hx hb dX8_readOrder_66 (by decide) ?_
          exact W.vret hx hb hr (fun t ht hW => ⟨⟨(G63), rfl, hv, pw ht hP⟩, hS.F ht⟩) hS.2.2 dX8_readOrder_125 (hlocks := hlocks)
        · have hv := (if_neg c4_3).symm.trans hv
          have e0 : (sX8_here M).toInt ≠ 100 := sw_ne c4_0
          have e1 : (sX8_here M).toInt ≠ 112 := sw_ne c4_1
          have e2 : (sX8_here M).toInt ≠ 114 := sw_ne c4_2
          have e3 : (sX8_here M).toInt ≠ 115 := sw_ne c4_3
          refine lv_lookup (off := 116) (tgt := 120) hx hb dX8_readOrder_4 (by decide) (by simp [Op.lookupswitch.offset, List.find?, Ne.symm e0, Ne.symm e1, Ne.symm e2, Ne.symm e3]) (by decide) ?_
          refine lv_aload_n hx hb dX8_readOrder_120 rfl (lv_at hl 0 rfl) ?_
          refine lv_iconst (v := 0) hx hb dX8_readOrder_121 (by decide) ?_
          refine va_put (D := D) (ci := 8) (v := .int (b2i false)) (ty := .boolean) (C := RX8) (T := TX8) (N := 14) hx hb hts iw_X8 tyX8 tyX8_ok nmX8 hown hK hP (m_D cs M hd) hS 0 rfl rfl 11 (by decide) (hts _ w_fl_X8_112) (fun _ h9 => h9) rfl (by decide +kernel) (b2i_nar _) (b2i_fit _) (Nat.le_of_ble_eq_true rfl) dX8_readOrder_122 (fun H locs hP _ hS => ?_)
          have hP : va_P D vwC (mW cs w (msG M false)) H := hP
          exact W.vret hx hb hr (fun t ht hW => ⟨⟨(msG M false), rfl, hv, pw ht hP⟩, hS.F ht⟩) hS.2.2 dX8_readOrder_125 (hlocks := hlocks)
theorem PR_readOrder {M : MS} (h : RI M) : PR M (sX8_readOrder M) := by
  unfold sX8_readOrder
  refine pr_if (fun _ => PR_readDraw h) (fun _ => ?_)
  refine pr_if (fun _ => PR_readPrint h) (fun _ => ?_)
  refine pr_if (fun c => ?_) (fun _ => ?_)
  · have g := PR_take (b := true) h (fun _ => here_l c (by decide))
    refine pr_if (fun c2 => ?_) (fun _ => ?_)
    · have g2 := PR_take (b := true) g.1 (fun _ => here_l c2 (by decide))
      exact (g.tr g2).th PR_readRevise
    · exact (g.tr (PR_th g.1 (by decide))).th PR_readRun
  refine pr_if (fun _ => PR_readStamp h) (fun _ => PR_g _ h)
theorem hd_X8_readAll : yX8_readAll.cls ≠ "java/lang/invoke/MethodHandle" ∧ yX8_readAll.cls ≠ "java/lang/invoke/VarHandle" ∧ (parseMethodDescriptor yX8_readAll.desc).map (fun d => d.parameters.length) = some 0 := by decide +kernel
def LX8_readAll_26 (M : MS) : Nat → MS → Int32 × MS
  | 0 => fun _ => (0, M)
  | n + 1 => fun O9 => (if O9.2 = true then (if (O9.1.1 2) ≤ (O9.1.1 3) then ((if O9.2 = true then (-1 : Int32) else (O9.1.1 3)), O9) else (LX8_readAll_26 M n ((sX8_readOrder ((sX8_take O9 true)))))) else ((if O9.2 = true then (-1 : Int32) else (O9.1.1 3)), O9))
theorem LX8_readAll_26_eq (M : MS) (n : Nat) (O9 : MS) : LX8_readAll_26 M (n + 1) O9 = (if O9.2 = true then (if (O9.1.1 2) ≤ (O9.1.1 3) then ((if O9.2 = true then (-1 : Int32) else (O9.1.1 3)), O9) else (LX8_readAll_26 M n ((sX8_readOrder ((sX8_take O9 true)))))) else ((if O9.2 = true then (-1 : Int32) else (O9.1.1 3)), O9)) := rfl
def sX8_readAll (M : MS) : Int32 × MS := (LX8_readAll_26 M (rlM ((sX8_readOrder (msA (msS (msG (msS M 3 0) true) 5 0) 3 ((sX8_fresh (M.1.2 3)))))) + 1) ((sX8_readOrder (msA (msS (msG (msS M 3 0) true) 5 0) 3 ((sX8_fresh (M.1.2 3)))))))
set_option maxHeartbeats 4000000 in
set_option maxRecDepth 100000 in
theorem c_X8_readAll (l : Launch) (D : va_G) (cs : Nat → ClassId) (w : Nat → Nat) (M : MS) (hd : mD w) (hln : 0 ≤ (M.1.1 2).toInt ∧ (M.1.1 2).toInt ≤ 120) : Met l yX8_readAll (wc yX8_readAll cX8_readAll 1 (some .int)) ({ frames := 7, cells := 0, slots := 0, locals := 151 } : Room) (va_Pc [.ref (w 0)] (PE D cs (mW cs w M))) (va_Qi (fun (r9 : Int32) (u : MS) => r9 = (sX8_readAll M).1 ∧ u = (sX8_readAll M).2) (fun u t => va_P D vwC (mW cs w u) t.heap) (mA w)) 0 0 (mA w) := by
  obtain ⟨v, hv⟩ : ∃ v, sX8_readAll M = v := ⟨_, rfl⟩
  rw [hv]
  refine met_o (lv := [(0, .ref (w 0))]) (by decide) (Nat.le_of_ble_eq_true rfl) rfl ?_
  intro p e s m args below meth c ls hx hb hr hml hts hown hlocks hin hP hE hl
  have hown : s.vm.findClass RX8 = some m.cls := hown
  have hK := hE.1
  have hP : va_P D vwC (mW cs w M) s.heap := hP
  have hS : va_S (mA w) s.heap s.heap [] := va_S.rf
  unfold sX8_readAll at hv
  refine lv_aload_n hx hb dX8_readAll_0 rfl (lv_at hl 0 rfl) ?_
  refine lv_iconst (v := 0) hx hb dX8_readAll_1 (by decide) ?_
  refine va_put (D := D) (ci := 8) (v := .int 0) (ty := .int) (C := RX8) (T := TX8) (N := 14) hx hb hts iw_X8 tyX8 tyX8_ok nmX8 hown hK hP (m_D cs M hd) hS 0 rfl rfl 10 (by decide) (hts _ w_fl_X8_109) (fun _ h9 => h9) rfl (by decide +kernel) rfl rfl (Nat.le_of_ble_eq_true rfl) dX8_readAll_2 (fun H locs hP _ hS => ?_)
  have hP : va_P D vwC (mW cs w (msS M 3 0)) H := hP
  refine lv_aload_n hx hb dX8_readAll_5 rfl (lv_at hl 0 rfl) ?_
  refine lv_iconst (v := 1) hx hb dX8_readAll_6 (by decide) ?_
  refine va_put (D := D) (ci := 8) (v := .int (b2i true)) (ty := .boolean) (C := RX8) (T := TX8) (N := 14) hx hb hts iw_X8 tyX8 tyX8_ok nmX8 hown hK hP (m_D cs (msS M 3 0) hd) hS 0 rfl rfl 11 (by decide) (hts _ w_fl_X8_112) (fun _ h9 => h9) rfl (by decide +kernel) (b2i_nar _) (b2i_fit _) (Nat.le_of_ble_eq_true rfl) dX8_readAll_7 (fun H locs hP _ hS => ?_)
  have hP : va_P D vwC (mW cs w (msG (msS M 3 0) true)) H := hP
  refine lv_aload_n hx hb dX8_readAll_10 rfl (lv_at hl 0 rfl) ?_
  refine lv_iconst (v := 0) hx hb dX8_readAll_11 (by decide) ?_
  refine va_put (D := D) (ci := 8) (v := .int 0) (ty := .int) (C := RX8) (T := TX8) (N := 14) hx hb hts iw_X8 tyX8 tyX8_ok nmX8 hown hK hP (m_D cs (msG (msS M 3 0) true) hd) hS 0 rfl rfl 12 (by decide) (hts _ w_fl_X8_132) (fun _ h9 => h9) rfl (by decide +kernel) rfl rfl (Nat.le_of_ble_eq_true rfl) dX8_readAll_12 (fun H locs hP _ hS => ?_)
  have hP : va_P D vwC (mW cs w (msS (msG (msS M 3 0) true) 5 0)) H := hP
  refine lv_aload_n hx hb dX8_readAll_15 rfl (lv_at hl 0 rfl) ?_
  refine va_get (D := D) (ci := 8) (v := .ref (w 3)) (C := RX8) (T := TX8) (N := 14) hx hb hts iw_X8 hown hK hP 0 rfl rfl 3 (by decide) (hts _ w_fl_X8_16) (fun _ h9 => h9) rfl dX8_readAll_16 ?_
  obtain ⟨G19, hG19⟩ : ∃ G, sX8_fresh (M.1.2 3) = G := ⟨_, rfl⟩
  have k19 := (c_X8_fresh l D cs (w 3) (M.1.2 3))
  rw [hG19] at k19
  rw [hG19] at hv
  refine w_v (G19) (va_runS (As := [.ref (w 3)]) (rest := []) ⟨hx, hb, hml, hown, hts⟩ k19 (cwS 1 hts (good_S w_ml_X8_32 w_st_X8_fresh w_in_X8 w_co_X8_fresh) rfl rfl rfl ⟨rfl, hd_X8_fresh⟩ ⟨Nat.le_of_ble_eq_true rfl, Nat.le_of_ble_eq_true rfl⟩) (pe_S (hP.sub (ws' := rowW cs (w 3) (M.1.2 3)) [3] rfl) hE) rfl rfl hl.1 rfl (lv_room (Nat.le_of_ble_eq_true rfl)) dX8_readAll_19 ⟨Nat.zero_le _, Nat.zero_le _⟩) hS (fun _ _ h => ⟨3, by decide, h⟩) (fun _ h => ⟨3, by decide, h⟩) (fun t locs hB hz hk hS => ?_)
  have hP : va_P D vwC (mW cs w (msA (msS (msG (msS M 3 0) true) 5 0) 3 (G19))) t.heap := m_up3 hd hP hk hB
  have g0 : RI (msA (msS (msG (msS M 3 0) true) 5 0) 3 (G19)) := RI_start hln (by rw [← hG19]; exact MV_fresh _)
  refine lv_aload_n hx hb dX8_readAll_22 rfl (lv_at hl 0 rfl) ?_
  obtain ⟨G23, hG23⟩ : ∃ G, sX8_readOrder (msA (msS (msG (msS M 3 0) true) 5 0) 3 (G19)) = G := ⟨_, rfl⟩
  have k23 := (c_X8_readOrder l D cs w (msA (msS (msG (msS M 3 0) true) 5 0) 3 (G19)) hd g0)
  rw [hG23] at k23
  rw [hG23] at hv
  refine w_v (G23) (va_runV (As := []) (rest := []) ⟨hx, hb, hml, hown, hts⟩ k23 (cwV 0 hts (good_V w_ml_X8_202 w_im_X8_readOrder w_se_X8_readOrder w_in_X8 w_co_X8_readOrder) rfl rfl rfl ⟨rfl, hd_X8_readOrder⟩ ⟨Nat.le_of_ble_eq_true rfl, Nat.le_of_ble_eq_true rfl⟩) (pe_W (C := RX8) (T := TX8) (N := 14) (ci := 8) (q0 := 0) hP hE rfl rfl) rfl rfl hl.1 rfl (lv_room (Nat.le_of_ble_eq_true rfl)) dX8_readAll_23 ⟨Nat.zero_le _, Nat.zero_le _⟩) hS (fun _ _ h => h) (fun _ h => h) (fun t locs hB hz hk hS => ?_)
  have hP : va_P D vwC (mW cs w (G23)) t.heap := hB
  have LOOP : ∀ (n : Nat) (O9 : MS), rlM O9 < n → (RI O9) → LX8_readAll_26 M n O9 = v → ∀ (H : Heap) (locs : List Loc), va_P D vwC (mW cs w O9) H → va_S (mA w) s.heap H locs → ∀ ls : Array Slot, lv_has ls 1 [(0, .ref (w 0))] → W p l e ({ frames := 7, cells := 0, slots := 0, locals := 151 } : Room) s m args below meth c H locs 0 0 (MQ below (va_Qi (fun (r9 : Int32) (u : MS) => r9 = v.1 ∧ u = v.2) (fun u t => va_P D vwC (mW cs w u) t.heap) (mA w)) args s 0 0 (mA w)) (F0 m 26 ls []) := by
    clear hv
    intro n
    induction n with
    | zero => intro O9 hm; exact absurd hm (Nat.not_lt_zero _)
    | succ n ih =>
      intro O9 hm i0 hv H locs hP hS ls hl
      have hv := (LX8_readAll_26_eq M n O9).symm.trans hv
      refine lv_aload_n hx hb dX8_readAll_26 rfl (lv_at hl 0 rfl) ?_
      refine va_get (D := D) (ci := 8) (v := .int (b2i O9.2)) (C := RX8) (T := TX8) (N := 14) hx hb hts iw_X8 hown hK hP 0 rfl rfl 11 (by decide) (hts _ w_fl_X8_112) (fun _ h9 => h9) rfl dX8_readAll_27 ?_
      refine lv_if_eq (tgt := 56) hx hb dX8_readAll_30 (by decide) (fun c30 => ?_) (fun c30 => ?_)
      · have c30 := b2i_f c30
        have hv := (if_neg c30).symm.trans hv
        refine lv_aload_n hx hb dX8_readAll_56 rfl (lv_at hl 0 rfl) ?_
        refine va_get (D := D) (ci := 8) (v := .int (b2i O9.2)) (C := RX8) (T := TX8) (N := 14) hx hb hts iw_X8 hown hK hP 0 rfl rfl 11 (by decide) (hts _ w_fl_X8_112) (fun _ h9 => h9) rfl dX8_readAll_57 ?_
        refine join_i (J := 71) (ls := ls) (rest := []) ((if O9.2 = true then (-1 : Int32) else (O9.1.1 3))) ?_ (fun hJ => ?_)
        · exact W.iret (v := (if O9.2 = true then (-1 : Int32) else (O9.1.1 3))) hx hb hr (fun t ht hW => ⟨⟨(if O9.2 = true then (-1 : Int32) else (O9.1.1 3)), O9, rfl, pair_eq hv, pw ht hP⟩, hS.F ht⟩) hS.2.2 dX8_readAll_71 (hlocks := hlocks)
        · refine lv_if_eq (tgt := 67) hx hb dX8_readAll_60 (by decide) (fun c60 => ?_) (fun c60 => ?_)
          · have c60 := b2i_f c60
            refine lv_aload_n hx hb dX8_readAll_67 rfl (lv_at hl 0 rfl) ?_
            refine va_get (D := D) (ci := 8) (v := .int (O9.1.1 3)) (C := RX8) (T := TX8) (N := 14) hx hb hts iw_X8 hown hK hP 0 rfl rfl 10 (by decide) (hts _ w_fl_X8_109) (fun _ h9 => h9) rfl dX8_readAll_68 ?_
            exact hJ _ ((if_neg c60).trans rfl)
          · have c60 := b2i_t c60
            refine lv_iconst (v := (-1)) hx hb dX8_readAll_63 (by decide) ?_
            refine lv_goto (tgt := 71) hx hb dX8_readAll_64 (by decide) ?_
            exact hJ _ ((if_pos c60).trans rfl)
      · have c30 := b2i_t c30
        have hv := (if_pos c30).symm.trans hv
        refine lv_aload_n hx hb dX8_readAll_33 rfl (lv_at hl 0 rfl) ?_
        refine va_get (D := D) (ci := 8) (v := .int (O9.1.1 3)) (C := RX8) (T := TX8) (N := 14) hx hb hts iw_X8 hown hK hP 0 rfl rfl 10 (by decide) (hts _ w_fl_X8_109) (fun _ h9 => h9) rfl dX8_readAll_34 ?_
        refine lv_aload_n hx hb dX8_readAll_37 rfl (lv_at hl 0 rfl) ?_
        refine va_get (D := D) (ci := 8) (v := .int (O9.1.1 2)) (C := RX8) (T := TX8) (N := 14) hx hb hts iw_X8 hown hK hP 0 rfl rfl 9 (by decide) (hts _ w_fl_X8_102) (fun _ h9 => h9) rfl dX8_readAll_38 ?_
        refine lv_icmp_ge (tgt := 56) hx hb dX8_readAll_41 (by decide) (fun c41 => ?_) (fun c41 => ?_)
        · have hv := (if_pos c41).symm.trans hv
          refine lv_aload_n hx hb dX8_readAll_56 rfl (lv_at hl 0 rfl) ?_
          refine va_get (D := D) (ci := 8) (v := .int (b2i O9.2)) (C := RX8) (T := TX8) (N := 14) hx hb hts iw_X8 hown hK hP 0 rfl rfl 11 (by decide) (hts _ w_fl_X8_112) (fun _ h9 => h9) rfl dX8_readAll_57 ?_
          refine join_i (J := 71) (ls := ls) (rest := []) ((if O9.2 = true then (-1 : Int32) else (O9.1.1 3))) ?_ (fun hJ => ?_)
          · exact W.iret (v := (if O9.2 = true then (-1 : Int32) else (O9.1.1 3))) hx hb hr (fun t ht hW => ⟨⟨(if O9.2 = true then (-1 : Int32) else (O9.1.1 3)), O9, rfl, pair_eq hv, pw ht hP⟩, hS.F ht⟩) hS.2.2 dX8_readAll_71 (hlocks := hlocks)
          · refine lv_if_eq (tgt := 67) hx hb dX8_readAll_60 (by decide) (fun c60 => ?_) (fun c60 => ?_)
            · have c60 := b2i_f c60
              refine lv_aload_n hx hb dX8_readAll_67 rfl (lv_at hl 0 rfl) ?_
              refine va_get (D := D) (ci := 8) (v := .int (O9.1.1 3)) (C := RX8) (T := TX8) (N := 14) hx hb hts iw_X8 hown hK hP 0 rfl rfl 10 (by decide) (hts _ w_fl_X8_109) (fun _ h9 => h9) rfl dX8_readAll_68 ?_
              exact hJ _ ((if_neg c60).trans rfl)
            · have c60 := b2i_t c60
              refine lv_iconst (v := (-1)) hx hb dX8_readAll_63 (by decide) ?_
              refine lv_goto (tgt := 71) hx hb dX8_readAll_64 (by decide) ?_
              exact hJ _ ((if_pos c60).trans rfl)
        · have hv := (if_neg c41).symm.trans hv
          have q2 := less_l c41
          have q3 := tk_up i0 c30 q2
          refine lv_aload_n hx hb dX8_readAll_44 rfl (lv_at hl 0 rfl) ?_
          refine lv_iconst (v := 1) hx hb dX8_readAll_45 (by decide) ?_
          obtain ⟨G46, hG46⟩ : ∃ G, sX8_take O9 true = G := ⟨_, rfl⟩
          have k46 := (c_X8_take l D cs w O9 true hd)
          rw [hG46] at k46
          rw [hG46] at hv
          refine w_v (G46) (va_runV (As := [.int (b2i true)]) (rest := []) ⟨hx, hb, hml, hown, hts⟩ k46 (cwV 1 hts (good_V w_ml_X8_120 w_im_X8_take w_se_X8_take w_in_X8 w_co_X8_take) rfl rfl rfl ⟨rfl, hd_X8_take⟩ ⟨Nat.le_of_ble_eq_true rfl, Nat.le_of_ble_eq_true rfl⟩) (pe_W (C := RX8) (T := TX8) (N := 14) (ci := 8) (q0 := 0) hP hE rfl rfl) rfl rfl hl.1 rfl (lv_room (Nat.le_of_ble_eq_true rfl)) dX8_readAll_46 ⟨Nat.zero_le _, Nat.zero_le _⟩) hS (fun _ _ h => h) (fun _ h => h) (fun t locs hB hz hk hS => ?_)
          have hP : va_P D vwC (mW cs w (G46)) t.heap := hB
          have g46 : PR O9 G46 := by rw [← hG46]; exact PR_take i0 (fun _ => q2)
          have q3 : (O9.1.1 3).toInt < (G46.1.1 3).toInt := by rw [← hG46]; exact q3
          refine lv_aload_n hx hb dX8_readAll_49 rfl (lv_at hl 0 rfl) ?_
          obtain ⟨G50, hG50⟩ : ∃ G, sX8_readOrder (G46) = G := ⟨_, rfl⟩
          have k50 := (c_X8_readOrder l D cs w (G46) hd g46.1)
          rw [hG50] at k50
          rw [hG50] at hv
          refine w_v (G50) (va_runV (As := []) (rest := []) ⟨hx, hb, hml, hown, hts⟩ k50 (cwV 0 hts (good_V w_ml_X8_202 w_im_X8_readOrder w_se_X8_readOrder w_in_X8 w_co_X8_readOrder) rfl rfl rfl ⟨rfl, hd_X8_readOrder⟩ ⟨Nat.le_of_ble_eq_true rfl, Nat.le_of_ble_eq_true rfl⟩) (pe_W (C := RX8) (T := TX8) (N := 14) (ci := 8) (q0 := 0) hP hE rfl rfl) rfl rfl hl.1 rfl (lv_room (Nat.le_of_ble_eq_true rfl)) dX8_readAll_50 ⟨Nat.zero_le _, Nat.zero_le _⟩) hS (fun _ _ h => h) (fun _ h => h) (fun t locs hB hz hk hS => ?_)
          have hP : va_P D vwC (mW cs w (G50)) t.heap := hB
          have g50 : PR G46 G50 := by rw [← hG50]; exact PR_readOrder g46.1
          refine lv_goto (tgt := 26) hx hb dX8_readAll_53 (by decide) ?_
          exact ih (G50) (rl_s (g46.tr g50) (Int.lt_of_lt_of_le q3 g50.2.1) hm) g50.1 hv _ _ hP hS ls (lv_sub hl [0] rfl)
  exact LOOP _ (G23) (Nat.lt_succ_self _) (by rw [← hG23]; exact (PR_readOrder g0).1) hv _ _ hP hS ls (lv_sub hl [0] rfl)
theorem PR_readAll {M : MS} (hl : 0 ≤ (M.1.1 2).toInt ∧ (M.1.1 2).toInt ≤ 120) : MV ((sX8_readAll M).2.1.2 3) ∧ (∀ k : Nat, k ≠ 3 → k ≠ 5 → k ≠ 6 → (sX8_readAll M).2.1.1 k = M.1.1 k) ∧ ∀ j : Nat, j ≠ 3 → (sX8_readAll M).2.1.2 j = M.1.2 j := by
  have h26 : ∀ n O9, RI O9 → rlM O9 < n → PR O9 (LX8_readAll_26 M n O9).2 := by
    intro n
    induction n with
    | zero => intro O9 _ hm; exact absurd hm (Nat.not_lt_zero _)
    | succ n ih =>
      intro O9 i0 hm
      rw [LX8_readAll_26_eq]
      refine pr_if2 (fun c30 => ?_) (fun _ => PR.rf i0)
      refine pr_if2 (fun _ => PR.rf i0) (fun c41 => ?_)
      have q2 := less_l c41
      have g := PR_take (b := true) i0 (fun _ => q2)
      have q3 := tk_up i0 c30 q2
      have g2 := PR_readOrder g.1
      refine (g.tr g2).tr (ih _ (g.tr g2).1 ?_)
      exact rl_s (g.tr g2) (Int.lt_of_lt_of_le q3 g2.2.1) hm
  have g0 : RI (msA (msS (msG (msS M 3 0) true) 5 0) 3 (sX8_fresh (M.1.2 3))) := RI_start hl (MV_fresh _)
  have g1 := PR_readOrder g0
  unfold sX8_readAll
  have g2 := g1.tr (h26 _ _ g1.1 (Nat.lt_succ_self _))
  refine ⟨g2.1.2, fun k a b c => (g2.2.2.1 k a b c).trans ?_, fun j a => (g2.2.2.2 j a).trans ?_⟩
  · show (if k = 5 then (0 : Int32) else if k = 3 then (0 : Int32) else M.1.1 k) = M.1.1 k
    rw [if_neg b, if_neg a]
  · exact if_neg a
theorem hd_X8_errorPosition : yX8_errorPosition.cls ≠ "java/lang/invoke/MethodHandle" ∧ yX8_errorPosition.cls ≠ "java/lang/invoke/VarHandle" ∧ (parseMethodDescriptor yX8_errorPosition.desc).map (fun d => d.parameters.length) = some 0 := by decide +kernel
def sX8_errorPosition (M : MS) : Int32 × MS := (((sX8_readAll (msS M 0 0))).1, (((sX8_readAll (msS M 0 0))).2))
set_option maxHeartbeats 4000000 in
set_option maxRecDepth 100000 in
theorem c_X8_errorPosition (l : Launch) (D : va_G) (cs : Nat → ClassId) (w : Nat → Nat) (M : MS) (hd : mD w) (hln : 0 ≤ (M.1.1 2).toInt ∧ (M.1.1 2).toInt ≤ 120) : Met l yX8_errorPosition (wc yX8_errorPosition cX8_errorPosition 1 (some .int)) ({ frames := 8, cells := 0, slots := 0, locals := 171 } : Room) (va_Pc [.ref (w 0)] (PE D cs (mW cs w M))) (va_Qi (fun (r9 : Int32) (u : MS) => r9 = (sX8_errorPosition M).1 ∧ u = (sX8_errorPosition M).2) (fun u t => va_P D vwC (mW cs w u) t.heap) (mA w)) 0 0 (mA w) := by
  obtain ⟨v, hv⟩ : ∃ v, sX8_errorPosition M = v := ⟨_, rfl⟩
  rw [hv]
  refine met_o (lv := [(0, .ref (w 0))]) (by decide) (Nat.le_of_ble_eq_true rfl) rfl ?_
  intro p e s m args below meth c ls hx hb hr hml hts hown hlocks hin hP hE hl
  have hown : s.vm.findClass RX8 = some m.cls := hown
  have hK := hE.1
  have hP : va_P D vwC (mW cs w M) s.heap := hP
  have hS : va_S (mA w) s.heap s.heap [] := va_S.rf
  unfold sX8_errorPosition at hv
  refine lv_aload_n hx hb dX8_errorPosition_0 rfl (lv_at hl 0 rfl) ?_
  refine lv_iconst (v := 0) hx hb dX8_errorPosition_1 (by decide) ?_
  refine va_put (D := D) (ci := 8) (v := .int 0) (ty := .int) (C := RX8) (T := TX8) (N := 14) hx hb hts iw_X8 tyX8 tyX8_ok nmX8 hown hK hP (m_D cs M hd) hS 0 rfl rfl 0 (by decide) (hts _ w_fl_X8_36) (fun _ h9 => h9) rfl (by decide +kernel) rfl rfl (Nat.le_of_ble_eq_true rfl) dX8_errorPosition_2 (fun H locs hP _ hS => ?_)
  have hP : va_P D vwC (mW cs w (msS M 0 0)) H := hP
  refine lv_aload_n hx hb dX8_errorPosition_5 rfl (lv_at hl 0 rfl) ?_
  obtain ⟨G6, hG6⟩ : ∃ G, sX8_readAll (msS M 0 0) = G := ⟨_, rfl⟩
  have k6 := (c_X8_readAll l D cs w (msS M 0 0) hd hln)
  rw [hG6] at k6
  rw [hG6] at hv
  refine w_i (G6) (va_runV (As := []) (rest := []) ⟨hx, hb, hml, hown, hts⟩ k6 (cwV 0 hts (good_V w_ml_X8_205 w_im_X8_readAll w_se_X8_readAll w_in_X8 w_co_X8_readAll) rfl rfl rfl ⟨rfl, hd_X8_readAll⟩ ⟨Nat.le_of_ble_eq_true rfl, Nat.le_of_ble_eq_true rfl⟩) (pe_W (C := RX8) (T := TX8) (N := 14) (ci := 8) (q0 := 0) hP hE rfl rfl) rfl rfl hl.1 rfl (lv_room (Nat.le_of_ble_eq_true rfl)) dX8_errorPosition_6 ⟨Nat.zero_le _, Nat.zero_le _⟩) hS (fun _ _ h => h) (fun _ h => h) (fun t locs hB hz hk hS => ?_)
  have hP : va_P D vwC (mW cs w ((G6).2)) t.heap := hB
  exact W.iret (v := (G6).1) hx hb hr (fun t ht hW => ⟨⟨(G6).1, ((G6).2), rfl, pair_eq hv, pw ht hP⟩, hS.F ht⟩) hS.2.2 dX8_errorPosition_9 (hlocks := hlocks)
theorem hd_X8_load : yX8_load.cls ≠ "java/lang/invoke/MethodHandle" ∧ yX8_load.cls ≠ "java/lang/invoke/VarHandle" ∧ (parseMethodDescriptor yX8_load.desc).map (fun d => d.parameters.length) = some 0 := by decide +kernel
def sX8_load (M : MS) : Int32 × MS := (if (refB (b2i (if (((sX8_readAll M)).1) = (-1) then false else true))) = true then (0, (msS (((sX8_readAll M)).2) 0 (b2i (if (((sX8_readAll M)).1) = (-1) then false else true)))) else (((((sX8_readAll M)).2).1.1 5), (msA (msA (msS (msA (msS (((sX8_readAll M)).2) 0 (b2i (if (((sX8_readAll M)).1) = (-1) then false else true))) 1 ((sX8_copy ((((sX8_readAll M)).2).1.2 1) ((((sX8_readAll M)).2).1.2 3)))) 1 0) 6 (upd ((((sX8_readAll M)).2).1.2 6) (0 : Int32).toNatClampNeg 0)) 6 (upd (upd ((((sX8_readAll M)).2).1.2 6) (0 : Int32).toNatClampNeg 0) (1 : Int32).toNatClampNeg 0))))
set_option maxHeartbeats 4000000 in
set_option maxRecDepth 100000 in
theorem c_X8_load (l : Launch) (D : va_G) (cs : Nat → ClassId) (w : Nat → Nat) (M : MS) (hd : mD w) (hln : 0 ≤ (M.1.1 2).toInt ∧ (M.1.1 2).toInt ≤ 120) : Met l yX8_load (wc yX8_load cX8_load 1 (some .int)) ({ frames := 8, cells := 0, slots := 0, locals := 171 } : Room) (va_Pc [.ref (w 0)] (PE D cs (mW cs w M))) (va_Qi (fun (r9 : Int32) (u : MS) => r9 = (sX8_load M).1 ∧ u = (sX8_load M).2) (fun u t => va_P D vwC (mW cs w u) t.heap) (mA w)) 0 0 (mA w) := by
  obtain ⟨v, hv⟩ : ∃ v, sX8_load M = v := ⟨_, rfl⟩
  rw [hv]
  refine met_o (lv := [(0, .ref (w 0))]) (by decide) (Nat.le_of_ble_eq_true rfl) rfl ?_
  intro p e s m args below meth c ls hx hb hr hml hts hown hlocks hin hP hE hl
  have hown : s.vm.findClass RX8 = some m.cls := hown
  have hK := hE.1
  have hP : va_P D vwC (mW cs w M) s.heap := hP
  have hS : va_S (mA w) s.heap s.heap [] := va_S.rf
  unfold sX8_load at hv
  refine lv_aload_n hx hb dX8_load_0 rfl (lv_at hl 0 rfl) ?_
  refine lv_aload_n hx hb dX8_load_1 rfl (lv_at hl 0 rfl) ?_
  obtain ⟨G2, hG2⟩ : ∃ G, sX8_readAll M = G := ⟨_, rfl⟩
  have k2 := (c_X8_readAll l D cs w M hd hln)
  rw [hG2] at k2
  rw [hG2] at hv
  refine w_i (G2) (va_runV (As := []) (rest := [.ref (w 0)]) ⟨hx, hb, hml, hown, hts⟩ k2 (cwV 0 hts (good_V w_ml_X8_205 w_im_X8_readAll w_se_X8_readAll w_in_X8 w_co_X8_readAll) rfl rfl rfl ⟨rfl, hd_X8_readAll⟩ ⟨Nat.le_of_ble_eq_true rfl, Nat.le_of_ble_eq_true rfl⟩) (pe_W (C := RX8) (T := TX8) (N := 14) (ci := 8) (q0 := 0) hP hE rfl rfl) rfl rfl hl.1 rfl (lv_room (Nat.le_of_ble_eq_true rfl)) dX8_load_2 ⟨Nat.zero_le _, Nat.zero_le _⟩) hS (fun _ _ h => h) (fun _ h => h) (fun t locs hB hz hk hS => ?_)
  have hP : va_P D vwC (mW cs w ((G2).2)) t.heap := hB
  refine lv_iconst (v := (-1)) hx hb dX8_load_5 (by decide) ?_
  refine join_i (J := 14) (ls := ls) (rest := [.ref (w 0)]) (b2i (if ((G2).1) = (-1) then false else true)) ?_ (fun hJ => ?_)
  · refine w_b (refB (b2i (if ((G2).1) = (-1) then false else true)), (msS ((G2).2) 0 (b2i (if ((G2).1) = (-1) then false else true)))) (va_runV (As := [.int (b2i (if ((G2).1) = (-1) then false else true))]) (rest := []) ⟨hx, hb, hml, hown, hts⟩ (c_X8_refused l D cs w ((G2).2) (b2i (if ((G2).1) = (-1) then false else true)) hd) (cwV 1 hts (good_V w_ml_X8_105 w_im_X8_refused w_se_X8_refused w_in_X8 w_co_X8_refused) rfl rfl rfl ⟨rfl, hd_X8_refused⟩ ⟨Nat.le_of_ble_eq_true rfl, Nat.le_of_ble_eq_true rfl⟩) (pe_W (C := RX8) (T := TX8) (N := 14) (ci := 8) (q0 := 0) hP hE rfl rfl) rfl rfl hl.1 rfl (lv_room (Nat.le_of_ble_eq_true rfl)) dX8_load_14 ⟨Nat.zero_le _, Nat.zero_le _⟩) hS (fun _ _ h => h) (fun _ h => h) (fun t locs hB hz hk hS => ?_)
    have hP : va_P D vwC (mW cs w (msS ((G2).2) 0 (b2i (if ((G2).1) = (-1) then false else true)))) t.heap := hB
    refine lv_if_eq (tgt := 22) hx hb dX8_load_17 (by decide) (fun c17 => ?_) (fun c17 => ?_)
    · have c17 := b2i_f c17
      have hv := (if_neg c17).symm.trans hv
      refine lv_aload_n hx hb dX8_load_22 rfl (lv_at hl 0 rfl) ?_
      refine va_get (D := D) (ci := 8) (v := .ref (w 3)) (C := RX8) (T := TX8) (N := 14) hx hb hts iw_X8 hown hK hP 0 rfl rfl 3 (by decide) (hts _ w_fl_X8_16) (fun _ h9 => h9) rfl dX8_load_23 ?_
      refine lv_aload_n hx hb dX8_load_26 rfl (lv_at hl 0 rfl) ?_
      refine va_get (D := D) (ci := 8) (v := .ref (w 1)) (C := RX8) (T := TX8) (N := 14) hx hb hts iw_X8 hown hK hP 0 rfl rfl 1 (by decide) (hts _ w_fl_X8_7) (fun _ h9 => h9) rfl dX8_load_27 ?_
      obtain ⟨G30, hG30⟩ : ∃ G, sX8_copy (((G2).2).1.2 1) (((G2).2).1.2 3) = G := ⟨_, rfl⟩
      have k30 := (c_X8_copy l D cs (w 1) (w 3) (((G2).2).1.2 1) (((G2).2).1.2 3) (fun e9 => absurd (hd 1 3 (by decide) (by decide) e9) (by decide)))
      rw [hG30] at k30
      rw [hG30] at hv
      refine w_v (G30) (va_runS (As := [.ref (w 3), .ref (w 1)]) (rest := []) ⟨hx, hb, hml, hown, hts⟩ k30 (cwS 2 hts (good_S w_ml_X8_208 w_st_X8_copy w_in_X8 w_co_X8_copy) rfl rfl rfl ⟨rfl, hd_X8_copy⟩ ⟨Nat.le_of_ble_eq_true rfl, Nat.le_of_ble_eq_true rfl⟩) (pe_S (hP.sub (ws' := rowW cs (w 1) (((G2).2).1.2 1) ++ rowW cs (w 3) (((G2).2).1.2 3)) [1, 3] rfl) hE) rfl rfl hl.1 rfl (lv_room (Nat.le_of_ble_eq_true rfl)) dX8_load_30 ⟨Nat.zero_le _, Nat.zero_le _⟩) hS (fun _ _ h => h.elim (fun h => ⟨1, by decide, h⟩) (fun h => ⟨3, by decide, h⟩)) (fun _ h => h.elim (fun h => ⟨1, by decide, h⟩) (fun h => ⟨3, by decide, h⟩)) (fun t locs hB hz hk hS => ?_)
      have hP : va_P D vwC (mW cs w (msA (msS ((G2).2) 0 (b2i (if ((G2).1) = (-1) then false else true))) 1 (G30))) t.heap := m_cp13 hd hP hk hB
      refine lv_aload_n hx hb dX8_load_33 rfl (lv_at hl 0 rfl) ?_
      refine lv_iconst (v := 0) hx hb dX8_load_34 (by decide) ?_
      refine va_put (D := D) (ci := 8) (v := .int 0) (ty := .int) (C := RX8) (T := TX8) (N := 14) hx hb hts iw_X8 tyX8 tyX8_ok nmX8 hown hK hP (m_D cs (msA (msS ((G2).2) 0 (b2i (if ((G2).1) = (-1) then false else true))) 1 (G30)) hd) hS 0 rfl rfl 5 (by decide) (hts _ w_fl_X8_97) (fun _ h9 => h9) rfl (by decide +kernel) rfl rfl (Nat.le_of_ble_eq_true rfl) dX8_load_35 (fun H locs hP _ hS => ?_)
      have hP : va_P D vwC (mW cs w (msS (msA (msS ((G2).2) 0 (b2i (if ((G2).1) = (-1) then false else true))) 1 (G30)) 1 0)) H := hP
      refine lv_aload_n hx hb dX8_load_38 rfl (lv_at hl 0 rfl) ?_
      refine va_get (D := D) (ci := 8) (v := .ref (w 6)) (C := RX8) (T := TX8) (N := 14) hx hb hts iw_X8 hown hK hP 0 rfl rfl 7 (by decide) (hts _ w_fl_X8_25) (fun _ h9 => h9) rfl dX8_load_39 ?_
      refine lv_iconst (v := 0) hx hb dX8_load_42 (by decide) ?_
      refine lv_iconst (v := 0) hx hb dX8_load_43 (by decide) ?_
      refine va_zast (cA := cs 2) (n := 2) (f := (((G2).2).1.2 6)) hx hb hK hP (m_D cs (msS (msA (msS ((G2).2) 0 (b2i (if ((G2).1) = (-1) then false else true))) 1 (G30)) 1 0) hd) hS 6 2 rfl rfl (by unfold vp_in; decide) dX8_load_44 (fun H locs hP _ hS => ?_)
      have hP : va_P D vwC (mW cs w (msA (msS (msA (msS ((G2).2) 0 (b2i (if ((G2).1) = (-1) then false else true))) 1 (G30)) 1 0) 6 (upd (((G2).2).1.2 6) (0 : Int32).toNatClampNeg 0))) H := hP
      refine lv_aload_n hx hb dX8_load_45 rfl (lv_at hl 0 rfl) ?_
      refine va_get (D := D) (ci := 8) (v := .ref (w 6)) (C := RX8) (T := TX8) (N := 14) hx hb hts iw_X8 hown hK hP 0 rfl rfl 7 (by decide) (hts _ w_fl_X8_25) (fun _ h9 => h9) rfl dX8_load_46 ?_
      refine lv_iconst (v := 1) hx hb dX8_load_49 (by decide) ?_
      refine lv_iconst (v := 0) hx hb dX8_load_50 (by decide) ?_
      refine va_zast (cA := cs 2) (n := 2) (f := (upd (((G2).2).1.2 6) (0 : Int32).toNatClampNeg 0)) hx hb hK hP (m_D cs (msA (msS (msA (msS ((G2).2) 0 (b2i (if ((G2).1) = (-1) then false else true))) 1 (G30)) 1 0) 6 (upd (((G2).2).1.2 6) (0 : Int32).toNatClampNeg 0)) hd) hS 6 2 rfl rfl (by unfold vp_in; decide) dX8_load_51 (fun H locs hP _ hS => ?_)
      have hP : va_P D vwC (mW cs w (msA (msA (msS (msA (msS ((G2).2) 0 (b2i (if ((G2).1) = (-1) then false else true))) 1 (G30)) 1 0) 6 (upd (((G2).2).1.2 6) (0 : Int32).toNatClampNeg 0)) 6 (upd (upd (((G2).2).1.2 6) (0 : Int32).toNatClampNeg 0) (1 : Int32).toNatClampNeg 0))) H := hP
      refine lv_aload_n hx hb dX8_load_52 rfl (lv_at hl 0 rfl) ?_
      refine va_get (D := D) (ci := 8) (v := .int (((G2).2).1.1 5)) (C := RX8) (T := TX8) (N := 14) hx hb hts iw_X8 hown hK hP 0 rfl rfl 12 (by decide) (hts _ w_fl_X8_132) (fun _ h9 => h9) rfl dX8_load_53 ?_
      exact W.iret (v := (((G2).2).1.1 5)) hx hb hr (fun t ht hW => ⟨⟨(((G2).2).1.1 5), (msA (msA (msS (msA (msS ((G2).2) 0 (b2i (if ((G2).1) = (-1) then false else true))) 1 (G30)) 1 0) 6 (upd (((G2).2).1.2 6) (0 : Int32).toNatClampNeg 0)) 6 (upd (upd (((G2).2).1.2 6) (0 : Int32).toNatClampNeg 0) (1 : Int32).toNatClampNeg 0)), rfl, pair_eq hv, pw ht hP⟩, hS.F ht⟩) hS.2.2 dX8_load_56 (hlocks := hlocks)
    · have c17 := b2i_t c17
      have hv := (if_pos c17).symm.trans hv
      refine lv_iconst (v := 0) hx hb dX8_load_20 (by decide) ?_
      exact W.iret (v := 0) hx hb hr (fun t ht hW => ⟨⟨0, (msS ((G2).2) 0 (b2i (if ((G2).1) = (-1) then false else true))), rfl, pair_eq hv, pw ht hP⟩, hS.F ht⟩) hS.2.2 dX8_load_21 (hlocks := hlocks)
  · refine lv_icmp_ne (tgt := 13) hx hb dX8_load_6 (by decide) (fun c6 => ?_) (fun c6 => ?_)
    · refine lv_iconst (v := 1) hx hb dX8_load_13 (by decide) ?_
      exact hJ _ (congrArg b2i ((if_neg c6).trans rfl))
    · refine lv_iconst (v := 0) hx hb dX8_load_9 (by decide) ?_
      refine lv_goto (tgt := 14) hx hb dX8_load_10 (by decide) ?_
      exact hJ _ (congrArg b2i ((if_pos c6).trans rfl))
theorem hd_X8_thrown : yX8_thrown.cls ≠ "java/lang/invoke/MethodHandle" ∧ yX8_thrown.cls ≠ "java/lang/invoke/VarHandle" ∧ (parseMethodDescriptor yX8_thrown.desc).map (fun d => d.parameters.length) = some 0 := by decide +kernel
def sX8_thrown (M : MS) : Int32 := (M.1.1 0)
set_option maxHeartbeats 4000000 in
set_option maxRecDepth 100000 in
theorem c_X8_thrown (l : Launch) (D : va_G) (cs : Nat → ClassId) (w : Nat → Nat) (M : MS) : Met l yX8_thrown (wc yX8_thrown cX8_thrown 1 (some .int)) ({ frames := 0, cells := 0, slots := 0, locals := 0 } : Room) (va_Pc [.ref (w 0)] (PE D cs (mW cs w M))) (vp_Si (fun r9 => r9 = (sX8_thrown M))) 0 0 (fun _ => False) := by
  obtain ⟨v, hv⟩ : ∃ v, sX8_thrown M = v := ⟨_, rfl⟩
  rw [hv]
  refine met_o (lv := [(0, .ref (w 0))]) (by decide) (Nat.le_of_ble_eq_true rfl) rfl ?_
  intro p e s m args below meth c ls hx hb hr hml hts hown hlocks hin hP hE hl
  have hown : s.vm.findClass RX8 = some m.cls := hown
  have hK := hE.1
  have hP : va_P D vwC (mW cs w M) s.heap := hP
  unfold sX8_thrown at hv
  refine lv_aload_n hx hb dX8_thrown_0 rfl (lv_at hl 0 rfl) ?_
  refine va_get (D := D) (ci := 8) (v := .int (M.1.1 0)) (C := RX8) (T := TX8) (N := 14) hx hb hts iw_X8 hown hK hP 0 rfl rfl 0 (by decide) (hts _ w_fl_X8_36) (fun _ h9 => h9) rfl dX8_thrown_1 ?_
  exact W.iret (v := (M.1.1 0)) hx hb hr (fun t ht hW => ⟨(M.1.1 0), rfl, hv, ht⟩) (fun _ h => nomatch h) dX8_thrown_4 (hlocks := hlocks)
