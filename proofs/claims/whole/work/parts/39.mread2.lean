theorem hd_X8_sitesLost : yX8_sitesLost.cls ≠ "java/lang/invoke/MethodHandle" ∧ yX8_sitesLost.cls ≠ "java/lang/invoke/VarHandle" ∧ (parseMethodDescriptor yX8_sitesLost.desc).map (fun d => d.parameters.length) = some 1 := by decide +kernel
def LX8_sitesLost_4 (M : MS) (p1 : Int32) : Nat → Int32 → Int32 → Int32
  | 0 => fun _ _ => 0
  | n + 1 => fun x2 x3 => (if 4 ≤ x3 then x2 else (LX8_sitesLost_4 M p1 n (x2 + (b2i (if (sX8_first (M.1.2 1) x3 p1) = (-1) then false else (if (sX8_first (M.1.2 2) x3 p1) = (-1) then true else false)))) (x3 + 1)))
theorem LX8_sitesLost_4_eq (M : MS) (p1 : Int32) (n : Nat) (x2 : Int32) (x3 : Int32) : LX8_sitesLost_4 M p1 (n + 1) x2 x3 = (if 4 ≤ x3 then x2 else (LX8_sitesLost_4 M p1 n (x2 + (b2i (if (sX8_first (M.1.2 1) x3 p1) = (-1) then false else (if (sX8_first (M.1.2 2) x3 p1) = (-1) then true else false)))) (x3 + 1))) := rfl
def sX8_sitesLost (M : MS) (p1 : Int32) : Int32 := (LX8_sitesLost_4 M p1 (upM 4 0 + 1) 0 0)
set_option maxHeartbeats 4000000 in
set_option maxRecDepth 100000 in
theorem c_X8_sitesLost (l : Launch) (D : va_G) (cs : Nat → ClassId) (w : Nat → Nat) (M : MS) (p1 : Int32) (hv0 : MV (M.1.2 1)) (hv2 : MV (M.1.2 2)) : Met l yX8_sitesLost (wc yX8_sitesLost cX8_sitesLost 4 (some .int)) ({ frames := 4, cells := 0, slots := 0, locals := 87 } : Room) (va_Pc [.ref (w 0), .int p1] (PE D cs (mW cs w M))) (vp_Si (fun r9 => r9 = (sX8_sitesLost M p1))) 0 0 (fun _ => False) := by
  obtain ⟨v, hv⟩ : ∃ v, sX8_sitesLost M p1 = v := ⟨_, rfl⟩
  rw [hv]
  refine met_o (lv := [(0, .ref (w 0)), (1, .int p1)]) (by decide) (Nat.le_of_ble_eq_true rfl) rfl ?_
  intro p e s m args below meth c ls hx hb hr hml hts hown hlocks hin hP hE hl
  have hown : s.vm.findClass RX8 = some m.cls := hown
  have hK := hE.1
  have hP : va_P D vwC (mW cs w M) s.heap := hP
  unfold sX8_sitesLost at hv
  refine lv_iconst (v := 0) hx hb dX8_sitesLost_0 (by decide) ?_
  refine lv_istore_n (lv' := [(2, .int 0), (0, .ref (w 0)), (1, .int p1)]) hx hb dX8_sitesLost_1 rfl hl (by decide) rfl (fun ls hl => ?_)
  refine lv_iconst (v := 0) hx hb dX8_sitesLost_2 (by decide) ?_
  refine lv_istore_n (lv' := [(3, .int 0), (2, .int 0), (0, .ref (w 0)), (1, .int p1)]) hx hb dX8_sitesLost_3 rfl hl (by decide) rfl (fun ls hl => ?_)
  have LOOP : ∀ (n : Nat) (x2 : Int32) (x3 : Int32), upM 4 x3 < n → (¬ x3 < 0) → LX8_sitesLost_4 M p1 n x2 x3 = v → ∀ ls : Array Slot, lv_has ls 4 [(0, .ref (w 0)), (1, .int p1), (2, .int x2), (3, .int x3)] → W p l e ({ frames := 4, cells := 0, slots := 0, locals := 87 } : Room) s m args below meth c s.heap [] 0 0 (MQ below (vp_Si (fun r9 => r9 = v)) args s 0 0 (fun _ => False)) (F0 m 4 ls []) := by
    clear hv
    intro n
    induction n with
    | zero => intro x2 x3 hm; exact absurd hm (Nat.not_lt_zero _)
    | succ n ih =>
      intro x2 x3 hm i0 hv ls hl
      have hv := (LX8_sitesLost_4_eq M p1 n x2 x3).symm.trans hv
      refine lv_iload_n hx hb dX8_sitesLost_4 rfl (lv_at hl 3 rfl) ?_
      refine lv_iconst (v := 4) hx hb dX8_sitesLost_5 (by decide) ?_
      refine lv_icmp_ge (tgt := 49) hx hb dX8_sitesLost_6 (by decide) (fun c6 => ?_) (fun c6 => ?_)
      · have hv := (if_pos c6).symm.trans hv
        refine lv_iload_n hx hb dX8_sitesLost_49 rfl (lv_at hl 2 rfl) ?_
        exact W.iret (v := x2) hx hb hr (fun t ht hW => ⟨x2, rfl, hv, ht⟩) (fun _ h => nomatch h) dX8_sitesLost_50 (hlocks := hlocks)
      · have hv := (if_neg c6).symm.trans hv
        refine lv_iload_n hx hb dX8_sitesLost_9 rfl (lv_at hl 2 rfl) ?_
        refine lv_aload_n hx hb dX8_sitesLost_10 rfl (lv_at hl 0 rfl) ?_
        refine va_get (D := D) (ci := 8) (v := .ref (w 1)) (C := RX8) (T := TX8) (N := 14) hx hb hts iw_X8 hown hK hP 0 rfl rfl 1 (by decide) (hts _ w_fl_X8_7) (fun _ h9 => h9) rfl dX8_sitesLost_11 ?_
        refine lv_iload_n hx hb dX8_sitesLost_14 rfl (lv_at hl 3 rfl) ?_
        refine lv_iload_n hx hb dX8_sitesLost_15 rfl (lv_at hl 1 rfl) ?_
        refine ro_i (sX8_first (M.1.2 1) x3 p1) (run_c (va_runS (As := [.ref (w 1), .int x3, .int p1]) (rest := [.int x2]) ⟨hx, hb, hml, hown, hts⟩ (c_X8_first l D cs (w 1) (M.1.2 1) x3 p1 hv0.2.1) (cwS 3 hts (good_S w_ml_X8_280 w_st_X8_first w_in_X8 w_co_X8_first) rfl rfl rfl ⟨rfl, hd_X8_first⟩ ⟨Nat.le_of_ble_eq_true rfl, Nat.le_of_ble_eq_true rfl⟩) (pe_S (hP.sub (ws' := rowW cs (w 1) (M.1.2 1)) [1] rfl) hE) rfl rfl hl.1 rfl (lv_room (Nat.le_of_ble_eq_true rfl)) dX8_sitesLost_16 ⟨Nat.zero_le _, Nat.zero_le _⟩)) ?_
        refine lv_iconst (v := (-1)) hx hb dX8_sitesLost_19 (by decide) ?_
        refine join_i (J := 41) (ls := ls) (rest := [.int x2]) (b2i (if (sX8_first (M.1.2 1) x3 p1) = (-1) then false else (if (sX8_first (M.1.2 2) x3 p1) = (-1) then true else false))) ?_ (fun hJ => ?_)
        · refine lv_iadd hx hb dX8_sitesLost_41 ?_
          refine lv_istore_n (lv' := [(2, .int (x2 + (b2i (if (sX8_first (M.1.2 1) x3 p1) = (-1) then false else (if (sX8_first (M.1.2 2) x3 p1) = (-1) then true else false))))), (0, .ref (w 0)), (1, .int p1), (3, .int x3)]) hx hb dX8_sitesLost_42 rfl hl (by decide) rfl (fun ls hl => ?_)
          refine lv_iinc (v := x3 + 1) (lv' := [(3, .int (x3 + 1)), (2, .int (x2 + (b2i (if (sX8_first (M.1.2 1) x3 p1) = (-1) then false else (if (sX8_first (M.1.2 2) x3 p1) = (-1) then true else false))))), (0, .ref (w 0)), (1, .int p1)]) hx hb dX8_sitesLost_43 hl (k := 3) rfl rfl (by decide) rfl (fun ls hl => ?_)
          refine lv_goto (tgt := 4) hx hb dX8_sitesLost_46 (by decide) ?_
          exact ih (x2 + (b2i (if (sX8_first (M.1.2 1) x3 p1) = (-1) then false else (if (sX8_first (M.1.2 2) x3 p1) = (-1) then true else false)))) (x3 + 1) (upM_s c6 hm) (nn_inc i0 c6) hv ls (lv_sub hl [2, 3, 1, 0] rfl)
        · refine lv_icmp_eq (tgt := 40) hx hb dX8_sitesLost_20 (by decide) (fun c20 => ?_) (fun c20 => ?_)
          · refine lv_iconst (v := 0) hx hb dX8_sitesLost_40 (by decide) ?_
            exact hJ _ (congrArg b2i ((if_pos c20).trans rfl))
          · refine lv_aload_n hx hb dX8_sitesLost_23 rfl (lv_at hl 0 rfl) ?_
            refine va_get (D := D) (ci := 8) (v := .ref (w 2)) (C := RX8) (T := TX8) (N := 14) hx hb hts iw_X8 hown hK hP 0 rfl rfl 2 (by decide) (hts _ w_fl_X8_13) (fun _ h9 => h9) rfl dX8_sitesLost_24 ?_
            refine lv_iload_n hx hb dX8_sitesLost_27 rfl (lv_at hl 3 rfl) ?_
            refine lv_iload_n hx hb dX8_sitesLost_28 rfl (lv_at hl 1 rfl) ?_
            refine ro_i (sX8_first (M.1.2 2) x3 p1) (run_c (va_runS (As := [.ref (w 2), .int x3, .int p1]) (rest := [.int x2]) ⟨hx, hb, hml, hown, hts⟩ (c_X8_first l D cs (w 2) (M.1.2 2) x3 p1 hv2.2.1) (cwS 3 hts (good_S w_ml_X8_280 w_st_X8_first w_in_X8 w_co_X8_first) rfl rfl rfl ⟨rfl, hd_X8_first⟩ ⟨Nat.le_of_ble_eq_true rfl, Nat.le_of_ble_eq_true rfl⟩) (pe_S (hP.sub (ws' := rowW cs (w 2) (M.1.2 2)) [2] rfl) hE) rfl rfl hl.1 rfl (lv_room (Nat.le_of_ble_eq_true rfl)) dX8_sitesLost_29 ⟨Nat.zero_le _, Nat.zero_le _⟩)) ?_
            refine lv_iconst (v := (-1)) hx hb dX8_sitesLost_32 (by decide) ?_
            refine lv_icmp_ne (tgt := 40) hx hb dX8_sitesLost_33 (by decide) (fun c33 => ?_) (fun c33 => ?_)
            · refine lv_iconst (v := 0) hx hb dX8_sitesLost_40 (by decide) ?_
              exact hJ _ (congrArg b2i ((if_neg c20).trans ((if_neg c33).trans rfl)))
            · refine lv_iconst (v := 1) hx hb dX8_sitesLost_36 (by decide) ?_
              refine lv_goto (tgt := 41) hx hb dX8_sitesLost_37 (by decide) ?_
              exact hJ _ (congrArg b2i ((if_neg c20).trans ((if_pos c33).trans rfl)))
  exact LOOP _ 0 0 (Nat.lt_succ_self _) (by decide) hv ls (lv_sub hl [2, 3, 1, 0] rfl)
theorem hd_X8_ahead : yX8_ahead.cls ≠ "java/lang/invoke/MethodHandle" ∧ yX8_ahead.cls ≠ "java/lang/invoke/VarHandle" ∧ (parseMethodDescriptor yX8_ahead.desc).map (fun d => d.parameters.length) = some 1 := by decide +kernel
def LX8_ahead_4 (M : MS) (p1 : Int32) : Nat → Int32 → Int32 → Int32
  | 0 => fun _ _ => 0
  | n + 1 => fun x2 x3 => (if ((M.1.2 1) (1 : Int32).toNatClampNeg) ≤ x3 then x2 else (LX8_ahead_4 M p1 n (x2 + (b2i (if (if (sX8_isOut (M.1.2 1) x3) = true then (if (sX8_isRecalled (M.1.2 1) x3) = true then true else false) else false) = true then (if ((M.1.2 1) (270 + x3).toNatClampNeg) < ((M.1.2 1) (270 + p1).toNatClampNeg) then true else (if ((M.1.2 1) (270 + x3).toNatClampNeg) = ((M.1.2 1) (270 + p1).toNatClampNeg) then (if p1 ≤ x3 then false else true) else false)) else false))) (x3 + 1)))
theorem LX8_ahead_4_eq (M : MS) (p1 : Int32) (n : Nat) (x2 : Int32) (x3 : Int32) : LX8_ahead_4 M p1 (n + 1) x2 x3 = (if ((M.1.2 1) (1 : Int32).toNatClampNeg) ≤ x3 then x2 else (LX8_ahead_4 M p1 n (x2 + (b2i (if (if (sX8_isOut (M.1.2 1) x3) = true then (if (sX8_isRecalled (M.1.2 1) x3) = true then true else false) else false) = true then (if ((M.1.2 1) (270 + x3).toNatClampNeg) < ((M.1.2 1) (270 + p1).toNatClampNeg) then true else (if ((M.1.2 1) (270 + x3).toNatClampNeg) = ((M.1.2 1) (270 + p1).toNatClampNeg) then (if p1 ≤ x3 then false else true) else false)) else false))) (x3 + 1))) := rfl
def sX8_ahead (M : MS) (p1 : Int32) : Int32 := (LX8_ahead_4 M p1 (upM (M.1.2 1 (1 : Int32).toNatClampNeg) 0 + 1) 0 0)
set_option maxHeartbeats 4000000 in
set_option maxRecDepth 100000 in
theorem c_X8_ahead (l : Launch) (D : va_G) (cs : Nat → ClassId) (w : Nat → Nat) (M : MS) (p1 : Int32) (hv0 : MV (M.1.2 1)) (h1 : vp_in p1 24) : Met l yX8_ahead (wc yX8_ahead cX8_ahead 5 (some .int)) ({ frames := 2, cells := 0, slots := 0, locals := 42 } : Room) (va_Pc [.ref (w 0), .int p1] (PE D cs (mW cs w M))) (vp_Si (fun r9 => r9 = (sX8_ahead M p1))) 0 0 (fun _ => False) := by
  obtain ⟨v, hv⟩ : ∃ v, sX8_ahead M p1 = v := ⟨_, rfl⟩
  rw [hv]
  refine met_o (lv := [(0, .ref (w 0)), (1, .int p1)]) (by decide) (Nat.le_of_ble_eq_true rfl) rfl ?_
  intro p e s m args below meth c ls hx hb hr hml hts hown hlocks hin hP hE hl
  have hown : s.vm.findClass RX8 = some m.cls := hown
  have hK := hE.1
  have hP : va_P D vwC (mW cs w M) s.heap := hP
  unfold sX8_ahead at hv
  refine lv_iconst (v := 0) hx hb dX8_ahead_0 (by decide) ?_
  refine lv_istore_n (lv' := [(2, .int 0), (0, .ref (w 0)), (1, .int p1)]) hx hb dX8_ahead_1 rfl hl (by decide) rfl (fun ls hl => ?_)
  refine lv_iconst (v := 0) hx hb dX8_ahead_2 (by decide) ?_
  refine lv_istore_n (lv' := [(3, .int 0), (2, .int 0), (0, .ref (w 0)), (1, .int p1)]) hx hb dX8_ahead_3 rfl hl (by decide) rfl (fun ls hl => ?_)
  have LOOP : ∀ (n : Nat) (x2 : Int32) (x3 : Int32), upM (M.1.2 1 (1 : Int32).toNatClampNeg) x3 < n → (¬ x3 < 0) → LX8_ahead_4 M p1 n x2 x3 = v → ∀ ls : Array Slot, lv_has ls 5 [(0, .ref (w 0)), (1, .int p1), (2, .int x2), (3, .int x3)] → W p l e ({ frames := 2, cells := 0, slots := 0, locals := 42 } : Room) s m args below meth c s.heap [] 0 0 (MQ below (vp_Si (fun r9 => r9 = v)) args s 0 0 (fun _ => False)) (F0 m 4 ls []) := by
    clear hv
    intro n
    induction n with
    | zero => intro x2 x3 hm; exact absurd hm (Nat.not_lt_zero _)
    | succ n ih =>
      intro x2 x3 hm i0 hv ls hl
      have hv := (LX8_ahead_4_eq M p1 n x2 x3).symm.trans hv
      refine lv_iload_n hx hb dX8_ahead_4 rfl (lv_at hl 3 rfl) ?_
      refine lv_aload_n hx hb dX8_ahead_5 rfl (lv_at hl 0 rfl) ?_
      refine va_get (D := D) (ci := 8) (v := .ref (w 1)) (C := RX8) (T := TX8) (N := 14) hx hb hts iw_X8 hown hK hP 0 rfl rfl 1 (by decide) (hts _ w_fl_X8_7) (fun _ h9 => h9) rfl dX8_ahead_6 ?_
      refine lv_iconst (v := 1) hx hb dX8_ahead_9 (by decide) ?_
      refine va_iald (cA := cs 0) (n := 414) (f := (M.1.2 1)) hx hb hK hP 1 0 rfl rfl (by unfold vp_in; decide) dX8_ahead_10 ?_
      refine lv_icmp_ge (tgt := 113) hx hb dX8_ahead_11 (by decide) (fun c11 => ?_) (fun c11 => ?_)
      · have hv := (if_pos c11).symm.trans hv
        refine lv_iload_n hx hb dX8_ahead_113 rfl (lv_at hl 2 rfl) ?_
        exact W.iret (v := x2) hx hb hr (fun t ht hW => ⟨x2, rfl, hv, ht⟩) (fun _ h => nomatch h) dX8_ahead_114 (hlocks := hlocks)
      · have hv := (if_neg c11).symm.trans hv
        have f1 := cnt_in hv0.2.1.2 i0 c11
        refine lv_aload_n hx hb dX8_ahead_14 rfl (lv_at hl 0 rfl) ?_
        refine va_get (D := D) (ci := 8) (v := .ref (w 1)) (C := RX8) (T := TX8) (N := 14) hx hb hts iw_X8 hown hK hP 0 rfl rfl 1 (by decide) (hts _ w_fl_X8_7) (fun _ h9 => h9) rfl dX8_ahead_15 ?_
        refine lv_iload_n hx hb dX8_ahead_18 rfl (lv_at hl 3 rfl) ?_
        refine ro_i (b2i (sX8_isOut (M.1.2 1) x3)) (run_c (va_runS (As := [.ref (w 1), .int x3]) (rest := []) ⟨hx, hb, hml, hown, hts⟩ (c_X8_isOut l D cs (w 1) (M.1.2 1) x3) (cwS 2 hts (good_S w_ml_X8_70 w_st_X8_isOut w_in_X8 w_co_X8_isOut) rfl rfl rfl ⟨rfl, hd_X8_isOut⟩ ⟨Nat.le_of_ble_eq_true rfl, Nat.le_of_ble_eq_true rfl⟩) (pe_S (hP.sub (ws' := rowW cs (w 1) (M.1.2 1)) [1] rfl) hE) rfl rfl hl.1 rfl (lv_room (Nat.le_of_ble_eq_true rfl)) dX8_ahead_19 ⟨Nat.zero_le _, Nat.zero_le _⟩)) ?_
        refine join_i (J := 41) (ls := ls) (rest := []) (b2i (if (sX8_isOut (M.1.2 1) x3) = true then (if (sX8_isRecalled (M.1.2 1) x3) = true then true else false) else false)) ?_ (fun hJ => ?_)
        · refine lv_istore (lv' := [(4, .int (b2i (if (sX8_isOut (M.1.2 1) x3) = true then (if (sX8_isRecalled (M.1.2 1) x3) = true then true else false) else false))), (0, .ref (w 0)), (1, .int p1), (2, .int x2), (3, .int x3)]) hx hb dX8_ahead_41 hl (by decide) rfl (fun ls hl => ?_)
          refine lv_iload_n hx hb dX8_ahead_43 rfl (lv_at hl 3 rfl) ?_
          refine lv_iload hx hb dX8_ahead_44 (lv_at hl 0 rfl) ?_
          refine join_i (J := 105) (ls := ls) (rest := [.int x2]) (b2i (if (if (sX8_isOut (M.1.2 1) x3) = true then (if (sX8_isRecalled (M.1.2 1) x3) = true then true else false) else false) = true then (if ((M.1.2 1) (270 + x3).toNatClampNeg) < ((M.1.2 1) (270 + p1).toNatClampNeg) then true else (if ((M.1.2 1) (270 + x3).toNatClampNeg) = ((M.1.2 1) (270 + p1).toNatClampNeg) then (if p1 ≤ x3 then false else true) else false)) else false)) ?_ (fun hJ => ?_)
          · refine lv_iadd hx hb dX8_ahead_105 ?_
            refine lv_istore_n (lv' := [(2, .int (x2 + (b2i (if (if (sX8_isOut (M.1.2 1) x3) = true then (if (sX8_isRecalled (M.1.2 1) x3) = true then true else false) else false) = true then (if ((M.1.2 1) (270 + x3).toNatClampNeg) < ((M.1.2 1) (270 + p1).toNatClampNeg) then true else (if ((M.1.2 1) (270 + x3).toNatClampNeg) = ((M.1.2 1) (270 + p1).toNatClampNeg) then (if p1 ≤ x3 then false else true) else false)) else false)))), (4, .int (b2i (if (sX8_isOut (M.1.2 1) x3) = true then (if (sX8_isRecalled (M.1.2 1) x3) = true then true else false) else false))), (0, .ref (w 0)), (1, .int p1), (3, .int x3)]) hx hb dX8_ahead_106 rfl hl (by decide) rfl (fun ls hl => ?_)
            refine lv_iinc (v := x3 + 1) (lv' := [(3, .int (x3 + 1)), (2, .int (x2 + (b2i (if (if (sX8_isOut (M.1.2 1) x3) = true then (if (sX8_isRecalled (M.1.2 1) x3) = true then true else false) else false) = true then (if ((M.1.2 1) (270 + x3).toNatClampNeg) < ((M.1.2 1) (270 + p1).toNatClampNeg) then true else (if ((M.1.2 1) (270 + x3).toNatClampNeg) = ((M.1.2 1) (270 + p1).toNatClampNeg) then (if p1 ≤ x3 then false else true) else false)) else false)))), (4, .int (b2i (if (sX8_isOut (M.1.2 1) x3) = true then (if (sX8_isRecalled (M.1.2 1) x3) = true then true else false) else false))), (0, .ref (w 0)), (1, .int p1)]) hx hb dX8_ahead_107 hl (k := 4) rfl rfl (by decide) rfl (fun ls hl => ?_)
            refine lv_goto (tgt := 4) hx hb dX8_ahead_110 (by decide) ?_
            exact ih (x2 + (b2i (if (if (sX8_isOut (M.1.2 1) x3) = true then (if (sX8_isRecalled (M.1.2 1) x3) = true then true else false) else false) = true then (if ((M.1.2 1) (270 + x3).toNatClampNeg) < ((M.1.2 1) (270 + p1).toNatClampNeg) then true else (if ((M.1.2 1) (270 + x3).toNatClampNeg) = ((M.1.2 1) (270 + p1).toNatClampNeg) then (if p1 ≤ x3 then false else true) else false)) else false))) (x3 + 1) (upM_s c11 hm) (nn_inc i0 c11) hv ls (lv_sub hl [3, 4, 1, 0] rfl)
          · refine lv_if_eq (tgt := 104) hx hb dX8_ahead_46 (by decide) (fun c46 => ?_) (fun c46 => ?_)
            · have c46 := b2i_f c46
              refine lv_iconst (v := 0) hx hb dX8_ahead_104 (by decide) ?_
              exact hJ _ (congrArg b2i ((if_neg c46).trans rfl))
            · have c46 := b2i_t c46
              refine lv_aload_n hx hb dX8_ahead_49 rfl (lv_at hl 1 rfl) ?_
              refine va_get (D := D) (ci := 8) (v := .ref (w 1)) (C := RX8) (T := TX8) (N := 14) hx hb hts iw_X8 hown hK hP 0 rfl rfl 1 (by decide) (hts _ w_fl_X8_7) (fun _ h9 => h9) rfl dX8_ahead_50 ?_
              refine lv_sipush (v := 270) hx hb dX8_ahead_53 (by decide) ?_
              refine lv_iload_n hx hb dX8_ahead_56 rfl (lv_at hl 4 rfl) ?_
              refine lv_iadd hx hb dX8_ahead_57 ?_
              refine va_iald (cA := cs 0) (n := 414) (f := (M.1.2 1)) hx hb hK hP 1 0 rfl rfl (vp_off (K := 270) rfl (by assumption) (by decide) (by decide)) dX8_ahead_58 ?_
              refine lv_aload_n hx hb dX8_ahead_59 rfl (lv_at hl 1 rfl) ?_
              refine va_get (D := D) (ci := 8) (v := .ref (w 1)) (C := RX8) (T := TX8) (N := 14) hx hb hts iw_X8 hown hK hP 0 rfl rfl 1 (by decide) (hts _ w_fl_X8_7) (fun _ h9 => h9) rfl dX8_ahead_60 ?_
              refine lv_sipush (v := 270) hx hb dX8_ahead_63 (by decide) ?_
              refine lv_iload_n hx hb dX8_ahead_66 rfl (lv_at hl 2 rfl) ?_
              refine lv_iadd hx hb dX8_ahead_67 ?_
              refine va_iald (cA := cs 0) (n := 414) (f := (M.1.2 1)) hx hb hK hP 1 0 rfl rfl (vp_off (K := 270) rfl (by assumption) (by decide) (by decide)) dX8_ahead_68 ?_
              refine lv_icmp_lt (tgt := 100) hx hb dX8_ahead_69 (by decide) (fun c69 => ?_) (fun c69 => ?_)
              · refine lv_iconst (v := 1) hx hb dX8_ahead_100 (by decide) ?_
                refine lv_goto (tgt := 105) hx hb dX8_ahead_101 (by decide) ?_
                exact hJ _ (congrArg b2i ((if_pos c46).trans ((if_pos c69).trans rfl)))
              · refine lv_aload_n hx hb dX8_ahead_72 rfl (lv_at hl 1 rfl) ?_
                refine va_get (D := D) (ci := 8) (v := .ref (w 1)) (C := RX8) (T := TX8) (N := 14) hx hb hts iw_X8 hown hK hP 0 rfl rfl 1 (by decide) (hts _ w_fl_X8_7) (fun _ h9 => h9) rfl dX8_ahead_73 ?_
                refine lv_sipush (v := 270) hx hb dX8_ahead_76 (by decide) ?_
                refine lv_iload_n hx hb dX8_ahead_79 rfl (lv_at hl 4 rfl) ?_
                refine lv_iadd hx hb dX8_ahead_80 ?_
                refine va_iald (cA := cs 0) (n := 414) (f := (M.1.2 1)) hx hb hK hP 1 0 rfl rfl (vp_off (K := 270) rfl (by assumption) (by decide) (by decide)) dX8_ahead_81 ?_
                refine lv_aload_n hx hb dX8_ahead_82 rfl (lv_at hl 1 rfl) ?_
                refine va_get (D := D) (ci := 8) (v := .ref (w 1)) (C := RX8) (T := TX8) (N := 14) hx hb hts iw_X8 hown hK hP 0 rfl rfl 1 (by decide) (hts _ w_fl_X8_7) (fun _ h9 => h9) rfl dX8_ahead_83 ?_
                refine lv_sipush (v := 270) hx hb dX8_ahead_86 (by decide) ?_
                refine lv_iload_n hx hb dX8_ahead_89 rfl (lv_at hl 2 rfl) ?_
                refine lv_iadd hx hb dX8_ahead_90 ?_
                refine va_iald (cA := cs 0) (n := 414) (f := (M.1.2 1)) hx hb hK hP 1 0 rfl rfl (vp_off (K := 270) rfl (by assumption) (by decide) (by decide)) dX8_ahead_91 ?_
                refine lv_icmp_ne (tgt := 104) hx hb dX8_ahead_92 (by decide) (fun c92 => ?_) (fun c92 => ?_)
                · refine lv_iconst (v := 0) hx hb dX8_ahead_104 (by decide) ?_
                  exact hJ _ (congrArg b2i ((if_pos c46).trans ((if_neg c69).trans ((if_neg c92).trans rfl))))
                · refine lv_iload_n hx hb dX8_ahead_95 rfl (lv_at hl 4 rfl) ?_
                  refine lv_iload_n hx hb dX8_ahead_96 rfl (lv_at hl 2 rfl) ?_
                  refine lv_icmp_ge (tgt := 104) hx hb dX8_ahead_97 (by decide) (fun c97 => ?_) (fun c97 => ?_)
                  · refine lv_iconst (v := 0) hx hb dX8_ahead_104 (by decide) ?_
                    exact hJ _ (congrArg b2i ((if_pos c46).trans ((if_neg c69).trans ((if_pos c92).trans ((if_pos c97).trans rfl)))))
                  · refine lv_iconst (v := 1) hx hb dX8_ahead_100 (by decide) ?_
                    refine lv_goto (tgt := 105) hx hb dX8_ahead_101 (by decide) ?_
                    exact hJ _ (congrArg b2i ((if_pos c46).trans ((if_neg c69).trans ((if_pos c92).trans ((if_neg c97).trans rfl)))))
        · refine lv_if_eq (tgt := 40) hx hb dX8_ahead_22 (by decide) (fun c22 => ?_) (fun c22 => ?_)
          · have c22 := b2i_f c22
            refine lv_iconst (v := 0) hx hb dX8_ahead_40 (by decide) ?_
            exact hJ _ (congrArg b2i ((if_neg c22).trans rfl))
          · have c22 := b2i_t c22
            refine lv_aload_n hx hb dX8_ahead_25 rfl (lv_at hl 0 rfl) ?_
            refine va_get (D := D) (ci := 8) (v := .ref (w 1)) (C := RX8) (T := TX8) (N := 14) hx hb hts iw_X8 hown hK hP 0 rfl rfl 1 (by decide) (hts _ w_fl_X8_7) (fun _ h9 => h9) rfl dX8_ahead_26 ?_
            refine lv_iload_n hx hb dX8_ahead_29 rfl (lv_at hl 3 rfl) ?_
            refine ro_i (b2i (sX8_isRecalled (M.1.2 1) x3)) (run_c (va_runS (As := [.ref (w 1), .int x3]) (rest := []) ⟨hx, hb, hml, hown, hts⟩ (c_X8_isRecalled l D cs (w 1) (M.1.2 1) x3 f1) (cwS 2 hts (good_S w_ml_X8_74 w_st_X8_isRecalled w_in_X8 w_co_X8_isRecalled) rfl rfl rfl ⟨rfl, hd_X8_isRecalled⟩ ⟨Nat.le_of_ble_eq_true rfl, Nat.le_of_ble_eq_true rfl⟩) (pe_S (hP.sub (ws' := rowW cs (w 1) (M.1.2 1)) [1] rfl) hE) rfl rfl hl.1 rfl (lv_room (Nat.le_of_ble_eq_true rfl)) dX8_ahead_30 ⟨Nat.zero_le _, Nat.zero_le _⟩)) ?_
            refine lv_if_eq (tgt := 40) hx hb dX8_ahead_33 (by decide) (fun c33 => ?_) (fun c33 => ?_)
            · have c33 := b2i_f c33
              refine lv_iconst (v := 0) hx hb dX8_ahead_40 (by decide) ?_
              exact hJ _ (congrArg b2i ((if_pos c22).trans ((if_neg c33).trans rfl)))
            · have c33 := b2i_t c33
              refine lv_iconst (v := 1) hx hb dX8_ahead_36 (by decide) ?_
              refine lv_goto (tgt := 41) hx hb dX8_ahead_37 (by decide) ?_
              exact hJ _ (congrArg b2i ((if_pos c22).trans ((if_pos c33).trans rfl)))
  exact LOOP _ 0 0 (Nat.lt_succ_self _) (by decide) hv ls (lv_sub hl [2, 3, 1, 0] rfl)
theorem hd_X8_fetch : yX8_fetch.cls ≠ "java/lang/invoke/MethodHandle" ∧ yX8_fetch.cls ≠ "java/lang/invoke/VarHandle" ∧ (parseMethodDescriptor yX8_fetch.desc).map (fun d => d.parameters.length) = some 1 := by decide +kernel
def LX8_fetch_22 (M : MS) (p1 : Int32) : Nat → Int32 → Int32 → Int32 × MS
  | 0 => fun _ _ => (0, M)
  | n + 1 => fun x2 x3 => (if ((M.1.2 1) (1 : Int32).toNatClampNeg) ≤ x3 then (x2, (msS M 0 (b2i (if 0 ≤ p1 then false else true)))) else (LX8_fetch_22 M p1 n (if (sX8_isOut (M.1.2 1) x3) = true then (if (sX8_isRecalled (M.1.2 1) x3) = true then (if (sX8_ahead (msS M 0 (b2i (if 0 ≤ p1 then false else true))) x3) = p1 then x3 else x2) else x2) else x2) (x3 + 1)))
theorem LX8_fetch_22_eq (M : MS) (p1 : Int32) (n : Nat) (x2 : Int32) (x3 : Int32) : LX8_fetch_22 M p1 (n + 1) x2 x3 = (if ((M.1.2 1) (1 : Int32).toNatClampNeg) ≤ x3 then (x2, (msS M 0 (b2i (if 0 ≤ p1 then false else true)))) else (LX8_fetch_22 M p1 n (if (sX8_isOut (M.1.2 1) x3) = true then (if (sX8_isRecalled (M.1.2 1) x3) = true then (if (sX8_ahead (msS M 0 (b2i (if 0 ≤ p1 then false else true))) x3) = p1 then x3 else x2) else x2) else x2) (x3 + 1))) := rfl
def sX8_fetch (M : MS) (p1 : Int32) : Int32 × MS := (if (refB (b2i (if 0 ≤ p1 then false else true))) = true then (0, (msS M 0 (b2i (if 0 ≤ p1 then false else true)))) else (LX8_fetch_22 M p1 (upM (M.1.2 1 (1 : Int32).toNatClampNeg) 0 + 1) (-1) 0))
set_option maxHeartbeats 4000000 in
set_option maxRecDepth 100000 in
theorem c_X8_fetch (l : Launch) (D : va_G) (cs : Nat → ClassId) (w : Nat → Nat) (M : MS) (p1 : Int32) (hd : mD w) (hv0 : MV (M.1.2 1)) : Met l yX8_fetch (wc yX8_fetch cX8_fetch 4 (some .int)) ({ frames := 3, cells := 0, slots := 0, locals := 66 } : Room) (va_Pc [.ref (w 0), .int p1] (PE D cs (mW cs w M))) (va_Qi (fun (r9 : Int32) (u : MS) => r9 = (sX8_fetch M p1).1 ∧ u = (sX8_fetch M p1).2) (fun u t => va_P D vwC (mW cs w u) t.heap) (mA w)) 0 0 (mA w) := by
  obtain ⟨v, hv⟩ : ∃ v, sX8_fetch M p1 = v := ⟨_, rfl⟩
  rw [hv]
  refine met_o (lv := [(0, .ref (w 0)), (1, .int p1)]) (by decide) (Nat.le_of_ble_eq_true rfl) rfl ?_
  intro p e s m args below meth c ls hx hb hr hml hts hown hlocks hin hP hE hl
  have hown : s.vm.findClass RX8 = some m.cls := hown
  have hK := hE.1
  have hP : va_P D vwC (mW cs w M) s.heap := hP
  have hS : va_S (mA w) s.heap s.heap [] := va_S.rf
  unfold sX8_fetch at hv
  refine lv_aload_n hx hb dX8_fetch_0 rfl (lv_at hl 0 rfl) ?_
  refine lv_iload_n hx hb dX8_fetch_1 rfl (lv_at hl 1 rfl) ?_
  refine join_i (J := 10) (ls := ls) (rest := [.ref (w 0)]) (b2i (if 0 ≤ p1 then false else true)) ?_ (fun hJ => ?_)
  · refine w_b (refB (b2i (if 0 ≤ p1 then false else true)), (msS M 0 (b2i (if 0 ≤ p1 then false else true)))) (va_runV (As := [.int (b2i (if 0 ≤ p1 then false else true))]) (rest := []) ⟨hx, hb, hml, hown, hts⟩ (c_X8_refused l D cs w M (b2i (if 0 ≤ p1 then false else true)) hd) (cwV 1 hts (good_V w_ml_X8_105 w_im_X8_refused w_se_X8_refused w_in_X8 w_co_X8_refused) rfl rfl rfl ⟨rfl, hd_X8_refused⟩ ⟨Nat.le_of_ble_eq_true rfl, Nat.le_of_ble_eq_true rfl⟩) (pe_W (C := RX8) (T := TX8) (N := 14) (ci := 8) (q0 := 0) hP hE rfl rfl) rfl rfl hl.1 rfl (lv_room (Nat.le_of_ble_eq_true rfl)) dX8_fetch_10 ⟨Nat.zero_le _, Nat.zero_le _⟩) hS (fun _ _ h => h) (fun _ h => h) (fun t locs hB hz hk hS => ?_)
    have hP : va_P D vwC (mW cs w (msS M 0 (b2i (if 0 ≤ p1 then false else true)))) t.heap := hB
    refine lv_if_eq (tgt := 18) hx hb dX8_fetch_13 (by decide) (fun c13 => ?_) (fun c13 => ?_)
    · have c13 := b2i_f c13
      have hv := (if_neg c13).symm.trans hv
      refine lv_iconst (v := (-1)) hx hb dX8_fetch_18 (by decide) ?_
      refine lv_istore_n (lv' := [(2, .int (-1)), (0, .ref (w 0)), (1, .int p1)]) hx hb dX8_fetch_19 rfl hl (by decide) rfl (fun ls hl => ?_)
      refine lv_iconst (v := 0) hx hb dX8_fetch_20 (by decide) ?_
      refine lv_istore_n (lv' := [(3, .int 0), (2, .int (-1)), (0, .ref (w 0)), (1, .int p1)]) hx hb dX8_fetch_21 rfl hl (by decide) rfl (fun ls hl => ?_)
      have LOOP : ∀ (n : Nat) (x2 : Int32) (x3 : Int32), upM (M.1.2 1 (1 : Int32).toNatClampNeg) x3 < n → (¬ x3 < 0) → LX8_fetch_22 M p1 n x2 x3 = v → ∀ (H : Heap) (locs : List Loc), va_P D vwC (mW cs w (msS M 0 (b2i (if 0 ≤ p1 then false else true)))) H → va_S (mA w) s.heap H locs → ∀ ls : Array Slot, lv_has ls 4 [(0, .ref (w 0)), (1, .int p1), (2, .int x2), (3, .int x3)] → W p l e ({ frames := 3, cells := 0, slots := 0, locals := 66 } : Room) s m args below meth c H locs 0 0 (MQ below (va_Qi (fun (r9 : Int32) (u : MS) => r9 = v.1 ∧ u = v.2) (fun u t => va_P D vwC (mW cs w u) t.heap) (mA w)) args s 0 0 (mA w)) (F0 m 22 ls []) := by
        clear hv
        intro n
        induction n with
        | zero => intro x2 x3 hm; exact absurd hm (Nat.not_lt_zero _)
        | succ n ih =>
          intro x2 x3 hm i0 hv H locs hP hS ls hl
          have hv := (LX8_fetch_22_eq M p1 n x2 x3).symm.trans hv
          refine lv_iload_n hx hb dX8_fetch_22 rfl (lv_at hl 3 rfl) ?_
          refine lv_aload_n hx hb dX8_fetch_23 rfl (lv_at hl 0 rfl) ?_
          refine va_get (D := D) (ci := 8) (v := .ref (w 1)) (C := RX8) (T := TX8) (N := 14) hx hb hts iw_X8 hown hK hP 0 rfl rfl 1 (by decide) (hts _ w_fl_X8_7) (fun _ h9 => h9) rfl dX8_fetch_24 ?_
          refine lv_iconst (v := 1) hx hb dX8_fetch_27 (by decide) ?_
          refine va_iald (cA := cs 0) (n := 414) (f := (M.1.2 1)) hx hb hK hP 1 0 rfl rfl (by unfold vp_in; decide) dX8_fetch_28 ?_
          refine lv_icmp_ge (tgt := 75) hx hb dX8_fetch_29 (by decide) (fun c29 => ?_) (fun c29 => ?_)
          · have hv := (if_pos c29).symm.trans hv
            refine lv_iload_n hx hb dX8_fetch_75 rfl (lv_at hl 2 rfl) ?_
            exact W.iret (v := x2) hx hb hr (fun t ht hW => ⟨⟨x2, (msS M 0 (b2i (if 0 ≤ p1 then false else true))), rfl, pair_eq hv, pw ht hP⟩, hS.F ht⟩) hS.2.2 dX8_fetch_76 (hlocks := hlocks)
          · have hv := (if_neg c29).symm.trans hv
            have f1 := cnt_in hv0.2.1.2 i0 c29
            refine lv_aload_n hx hb dX8_fetch_32 rfl (lv_at hl 0 rfl) ?_
            refine va_get (D := D) (ci := 8) (v := .ref (w 1)) (C := RX8) (T := TX8) (N := 14) hx hb hts iw_X8 hown hK hP 0 rfl rfl 1 (by decide) (hts _ w_fl_X8_7) (fun _ h9 => h9) rfl dX8_fetch_33 ?_
            refine lv_iload_n hx hb dX8_fetch_36 rfl (lv_at hl 3 rfl) ?_
            refine ro_i (b2i (sX8_isOut (M.1.2 1) x3)) (run_c (va_runS (As := [.ref (w 1), .int x3]) (rest := []) ⟨hx, hb, hml, hown, hts⟩ (c_X8_isOut l D cs (w 1) (M.1.2 1) x3) (cwS 2 hts (good_S w_ml_X8_70 w_st_X8_isOut w_in_X8 w_co_X8_isOut) rfl rfl rfl ⟨rfl, hd_X8_isOut⟩ ⟨Nat.le_of_ble_eq_true rfl, Nat.le_of_ble_eq_true rfl⟩) (pe_S (hP.sub (ws' := rowW cs (w 1) (M.1.2 1)) [1] rfl) hE) rfl rfl hl.1 rfl (lv_room (Nat.le_of_ble_eq_true rfl)) dX8_fetch_37 ⟨Nat.zero_le _, Nat.zero_le _⟩)) ?_
            refine join_i (J := 68) (ls := ls) (rest := []) ((if (sX8_isOut (M.1.2 1) x3) = true then (if (sX8_isRecalled (M.1.2 1) x3) = true then (if (sX8_ahead (msS M 0 (b2i (if 0 ≤ p1 then false else true))) x3) = p1 then x3 else x2) else x2) else x2)) ?_ (fun hJ => ?_)
            · refine lv_istore_n (lv' := [(2, .int (if (sX8_isOut (M.1.2 1) x3) = true then (if (sX8_isRecalled (M.1.2 1) x3) = true then (if (sX8_ahead (msS M 0 (b2i (if 0 ≤ p1 then false else true))) x3) = p1 then x3 else x2) else x2) else x2)), (0, .ref (w 0)), (1, .int p1), (3, .int x3)]) hx hb dX8_fetch_68 rfl hl (by decide) rfl (fun ls hl => ?_)
              refine lv_iinc (v := x3 + 1) (lv' := [(3, .int (x3 + 1)), (2, .int (if (sX8_isOut (M.1.2 1) x3) = true then (if (sX8_isRecalled (M.1.2 1) x3) = true then (if (sX8_ahead (msS M 0 (b2i (if 0 ≤ p1 then false else true))) x3) = p1 then x3 else x2) else x2) else x2)), (0, .ref (w 0)), (1, .int p1)]) hx hb dX8_fetch_69 hl (k := 3) rfl rfl (by decide) rfl (fun ls hl => ?_)
              refine lv_goto (tgt := 22) hx hb dX8_fetch_72 (by decide) ?_
              exact ih (if (sX8_isOut (M.1.2 1) x3) = true then (if (sX8_isRecalled (M.1.2 1) x3) = true then (if (sX8_ahead (msS M 0 (b2i (if 0 ≤ p1 then false else true))) x3) = p1 then x3 else x2) else x2) else x2) (x3 + 1) (upM_s c29 hm) (nn_inc i0 c29) hv _ _ hP hS ls (lv_sub hl [2, 3, 1, 0] rfl)
            · refine lv_if_eq (tgt := 67) hx hb dX8_fetch_40 (by decide) (fun c40 => ?_) (fun c40 => ?_)
              · have c40 := b2i_f c40
                refine lv_iload_n hx hb dX8_fetch_67 rfl (lv_at hl 2 rfl) ?_
                exact hJ _ ((if_neg c40).trans rfl)
              · have c40 := b2i_t c40
                refine lv_aload_n hx hb dX8_fetch_43 rfl (lv_at hl 0 rfl) ?_
                refine va_get (D := D) (ci := 8) (v := .ref (w 1)) (C := RX8) (T := TX8) (N := 14) hx hb hts iw_X8 hown hK hP 0 rfl rfl 1 (by decide) (hts _ w_fl_X8_7) (fun _ h9 => h9) rfl dX8_fetch_44 ?_
                refine lv_iload_n hx hb dX8_fetch_47 rfl (lv_at hl 3 rfl) ?_
                refine ro_i (b2i (sX8_isRecalled (M.1.2 1) x3)) (run_c (va_runS (As := [.ref (w 1), .int x3]) (rest := []) ⟨hx, hb, hml, hown, hts⟩ (c_X8_isRecalled l D cs (w 1) (M.1.2 1) x3 f1) (cwS 2 hts (good_S w_ml_X8_74 w_st_X8_isRecalled w_in_X8 w_co_X8_isRecalled) rfl rfl rfl ⟨rfl, hd_X8_isRecalled⟩ ⟨Nat.le_of_ble_eq_true rfl, Nat.le_of_ble_eq_true rfl⟩) (pe_S (hP.sub (ws' := rowW cs (w 1) (M.1.2 1)) [1] rfl) hE) rfl rfl hl.1 rfl (lv_room (Nat.le_of_ble_eq_true rfl)) dX8_fetch_48 ⟨Nat.zero_le _, Nat.zero_le _⟩)) ?_
                refine lv_if_eq (tgt := 67) hx hb dX8_fetch_51 (by decide) (fun c51 => ?_) (fun c51 => ?_)
                · have c51 := b2i_f c51
                  refine lv_iload_n hx hb dX8_fetch_67 rfl (lv_at hl 2 rfl) ?_
                  exact hJ _ ((if_pos c40).trans ((if_neg c51).trans rfl))
                · have c51 := b2i_t c51
                  refine lv_aload_n hx hb dX8_fetch_54 rfl (lv_at hl 0 rfl) ?_
                  refine lv_iload_n hx hb dX8_fetch_55 rfl (lv_at hl 3 rfl) ?_
                  refine ro_i (sX8_ahead (msS M 0 (b2i (if 0 ≤ p1 then false else true))) x3) (run_c (va_runV (As := [.int x3]) (rest := []) ⟨hx, hb, hml, hown, hts⟩ (c_X8_ahead l D cs w (msS M 0 (b2i (if 0 ≤ p1 then false else true))) x3 hv0 f1) (cwV 1 hts (good_V w_ml_X8_286 w_im_X8_ahead w_se_X8_ahead w_in_X8 w_co_X8_ahead) rfl rfl rfl ⟨rfl, hd_X8_ahead⟩ ⟨Nat.le_of_ble_eq_true rfl, Nat.le_of_ble_eq_true rfl⟩) (pe_W (C := RX8) (T := TX8) (N := 14) (ci := 8) (q0 := 0) hP hE rfl rfl) rfl rfl hl.1 rfl (lv_room (Nat.le_of_ble_eq_true rfl)) dX8_fetch_56 ⟨Nat.zero_le _, Nat.zero_le _⟩)) ?_
                  refine lv_iload_n hx hb dX8_fetch_59 rfl (lv_at hl 1 rfl) ?_
                  refine lv_icmp_ne (tgt := 67) hx hb dX8_fetch_60 (by decide) (fun c60 => ?_) (fun c60 => ?_)
                  · refine lv_iload_n hx hb dX8_fetch_67 rfl (lv_at hl 2 rfl) ?_
                    exact hJ _ ((if_pos c40).trans ((if_pos c51).trans ((if_neg c60).trans rfl)))
                  · refine lv_iload_n hx hb dX8_fetch_63 rfl (lv_at hl 3 rfl) ?_
                    refine lv_goto (tgt := 68) hx hb dX8_fetch_64 (by decide) ?_
                    exact hJ _ ((if_pos c40).trans ((if_pos c51).trans ((if_pos c60).trans rfl)))
      exact LOOP _ (-1) 0 (Nat.lt_succ_self _) (by decide) hv _ _ hP hS ls (lv_sub hl [2, 3, 1, 0] rfl)
    · have c13 := b2i_t c13
      have hv := (if_pos c13).symm.trans hv
      refine lv_iconst (v := 0) hx hb dX8_fetch_16 (by decide) ?_
      exact W.iret (v := 0) hx hb hr (fun t ht hW => ⟨⟨0, (msS M 0 (b2i (if 0 ≤ p1 then false else true))), rfl, pair_eq hv, pw ht hP⟩, hS.F ht⟩) hS.2.2 dX8_fetch_17 (hlocks := hlocks)
  · refine lv_if_ge (tgt := 9) hx hb dX8_fetch_2 (by decide) (fun c2 => ?_) (fun c2 => ?_)
    · refine lv_iconst (v := 0) hx hb dX8_fetch_9 (by decide) ?_
      exact hJ _ (congrArg b2i ((if_pos c2).trans rfl))
    · refine lv_iconst (v := 1) hx hb dX8_fetch_5 (by decide) ?_
      refine lv_goto (tgt := 10) hx hb dX8_fetch_6 (by decide) ?_
      exact hJ _ (congrArg b2i ((if_neg c2).trans rfl))
theorem hd_X8_badness : yX8_badness.cls ≠ "java/lang/invoke/MethodHandle" ∧ yX8_badness.cls ≠ "java/lang/invoke/VarHandle" ∧ (parseMethodDescriptor yX8_badness.desc).map (fun d => d.parameters.length) = some 1 := by decide +kernel
def LX8_badness_62 (M : MS) (p1 : Int32) : Nat → Int32 → Int32 → Int32
  | 0 => fun _ _ => 0
  | n + 1 => fun x2 x3 => (if ((M.1.2 1) (2 : Int32).toNatClampNeg) ≤ x3 then x2 else (LX8_badness_62 M p1 n (x2 + (b2i (if ((M.1.2 1) (294 + x3).toNatClampNeg) = p1 then (if (sX8_isWrong (M.1.2 1) x3) = true then true else false) else false))) (x3 + 1)))
theorem LX8_badness_62_eq (M : MS) (p1 : Int32) (n : Nat) (x2 : Int32) (x3 : Int32) : LX8_badness_62 M p1 (n + 1) x2 x3 = (if ((M.1.2 1) (2 : Int32).toNatClampNeg) ≤ x3 then x2 else (LX8_badness_62 M p1 n (x2 + (b2i (if ((M.1.2 1) (294 + x3).toNatClampNeg) = p1 then (if (sX8_isWrong (M.1.2 1) x3) = true then true else false) else false))) (x3 + 1))) := rfl
def LX8_badness_4 (M : MS) (p1 : Int32) : Nat → Int32 → Int32 → Int32
  | 0 => fun _ _ => 0
  | n + 1 => fun x2 x3 => (if ((M.1.2 1) (1 : Int32).toNatClampNeg) ≤ x3 then (LX8_badness_62 M p1 (upM (M.1.2 1 (2 : Int32).toNatClampNeg) 0 + 1) x2 0) else (LX8_badness_4 M p1 n (x2 + (if ((M.1.2 1) (198 + x3).toNatClampNeg) = p1 then (if (sX8_isOverdue (M.1.2 1) x3 ((M.1.2 1) (3 : Int32).toNatClampNeg)) = true then (100 : Int32) else (0 : Int32)) else (0 : Int32))) (x3 + 1)))
theorem LX8_badness_4_eq (M : MS) (p1 : Int32) (n : Nat) (x2 : Int32) (x3 : Int32) : LX8_badness_4 M p1 (n + 1) x2 x3 = (if ((M.1.2 1) (1 : Int32).toNatClampNeg) ≤ x3 then (LX8_badness_62 M p1 (upM (M.1.2 1 (2 : Int32).toNatClampNeg) 0 + 1) x2 0) else (LX8_badness_4 M p1 n (x2 + (if ((M.1.2 1) (198 + x3).toNatClampNeg) = p1 then (if (sX8_isOverdue (M.1.2 1) x3 ((M.1.2 1) (3 : Int32).toNatClampNeg)) = true then (100 : Int32) else (0 : Int32)) else (0 : Int32))) (x3 + 1))) := rfl
def sX8_badness (M : MS) (p1 : Int32) : Int32 := (LX8_badness_4 M p1 (upM (M.1.2 1 (1 : Int32).toNatClampNeg) 0 + 1) 0 0)
set_option maxHeartbeats 4000000 in
set_option maxRecDepth 100000 in
theorem c_X8_badness (l : Launch) (D : va_G) (cs : Nat → ClassId) (w : Nat → Nat) (M : MS) (p1 : Int32) (hv0 : MV (M.1.2 1)) : Met l yX8_badness (wc yX8_badness cX8_badness 4 (some .int)) ({ frames := 3, cells := 0, slots := 0, locals := 64 } : Room) (va_Pc [.ref (w 0), .int p1] (PE D cs (mW cs w M))) (vp_Si (fun r9 => r9 = (sX8_badness M p1))) 0 0 (fun _ => False) := by
  obtain ⟨v, hv⟩ : ∃ v, sX8_badness M p1 = v := ⟨_, rfl⟩
  rw [hv]
  refine met_o (lv := [(0, .ref (w 0)), (1, .int p1)]) (by decide) (Nat.le_of_ble_eq_true rfl) rfl ?_
  intro p e s m args below meth c ls hx hb hr hml hts hown hlocks hin hP hE hl
  have hown : s.vm.findClass RX8 = some m.cls := hown
  have hK := hE.1
  have hP : va_P D vwC (mW cs w M) s.heap := hP
  unfold sX8_badness at hv
  refine lv_iconst (v := 0) hx hb dX8_badness_0 (by decide) ?_
  refine lv_istore_n (lv' := [(2, .int 0), (0, .ref (w 0)), (1, .int p1)]) hx hb dX8_badness_1 rfl hl (by decide) rfl (fun ls hl => ?_)
  refine lv_iconst (v := 0) hx hb dX8_badness_2 (by decide) ?_
  refine lv_istore_n (lv' := [(3, .int 0), (2, .int 0), (0, .ref (w 0)), (1, .int p1)]) hx hb dX8_badness_3 rfl hl (by decide) rfl (fun ls hl => ?_)
  have LOOP : ∀ (n : Nat) (x2 : Int32) (x3 : Int32), upM (M.1.2 1 (1 : Int32).toNatClampNeg) x3 < n → (¬ x3 < 0) → LX8_badness_4 M p1 n x2 x3 = v → ∀ ls : Array Slot, lv_has ls 4 [(0, .ref (w 0)), (1, .int p1), (2, .int x2), (3, .int x3)] → W p l e ({ frames := 3, cells := 0, slots := 0, locals := 64 } : Room) s m args below meth c s.heap [] 0 0 (MQ below (vp_Si (fun r9 => r9 = v)) args s 0 0 (fun _ => False)) (F0 m 4 ls []) := by
    clear hv
    intro n
    induction n with
    | zero => intro x2 x3 hm; exact absurd hm (Nat.not_lt_zero _)
    | succ n ih =>
      intro x2 x3 hm i0 hv ls hl
      have hv := (LX8_badness_4_eq M p1 n x2 x3).symm.trans hv
      refine lv_iload_n hx hb dX8_badness_4 rfl (lv_at hl 3 rfl) ?_
      refine lv_aload_n hx hb dX8_badness_5 rfl (lv_at hl 0 rfl) ?_
      refine va_get (D := D) (ci := 8) (v := .ref (w 1)) (C := RX8) (T := TX8) (N := 14) hx hb hts iw_X8 hown hK hP 0 rfl rfl 1 (by decide) (hts _ w_fl_X8_7) (fun _ h9 => h9) rfl dX8_badness_6 ?_
      refine lv_iconst (v := 1) hx hb dX8_badness_9 (by decide) ?_
      refine va_iald (cA := cs 0) (n := 414) (f := (M.1.2 1)) hx hb hK hP 1 0 rfl rfl (by unfold vp_in; decide) dX8_badness_10 ?_
      refine lv_icmp_ge (tgt := 60) hx hb dX8_badness_11 (by decide) (fun c11 => ?_) (fun c11 => ?_)
      · have hv := (if_pos c11).symm.trans hv
        refine lv_iconst (v := 0) hx hb dX8_badness_60 (by decide) ?_
        refine lv_istore_n (lv' := [(3, .int 0), (0, .ref (w 0)), (1, .int p1), (2, .int x2)]) hx hb dX8_badness_61 rfl hl (by decide) rfl (fun ls hl => ?_)
        have LOOP : ∀ (n : Nat) (x2 : Int32) (x3 : Int32), upM (M.1.2 1 (2 : Int32).toNatClampNeg) x3 < n → (¬ x3 < 0) → LX8_badness_62 M p1 n x2 x3 = v → ∀ ls : Array Slot, lv_has ls 4 [(0, .ref (w 0)), (1, .int p1), (2, .int x2), (3, .int x3)] → W p l e ({ frames := 3, cells := 0, slots := 0, locals := 64 } : Room) s m args below meth c s.heap [] 0 0 (MQ below (vp_Si (fun r9 => r9 = v)) args s 0 0 (fun _ => False)) (F0 m 62 ls []) := by
          clear hv
          intro n
          induction n with
          | zero => intro x2 x3 hm; exact absurd hm (Nat.not_lt_zero _)
          | succ n ih =>
            intro x2 x3 hm i0 hv ls hl
            have hv := (LX8_badness_62_eq M p1 n x2 x3).symm.trans hv
            refine lv_iload_n hx hb dX8_badness_62 rfl (lv_at hl 3 rfl) ?_
            refine lv_aload_n hx hb dX8_badness_63 rfl (lv_at hl 0 rfl) ?_
            refine va_get (D := D) (ci := 8) (v := .ref (w 1)) (C := RX8) (T := TX8) (N := 14) hx hb hts iw_X8 hown hK hP 0 rfl rfl 1 (by decide) (hts _ w_fl_X8_7) (fun _ h9 => h9) rfl dX8_badness_64 ?_
            refine lv_iconst (v := 2) hx hb dX8_badness_67 (by decide) ?_
            refine va_iald (cA := cs 0) (n := 414) (f := (M.1.2 1)) hx hb hK hP 1 0 rfl rfl (by unfold vp_in; decide) dX8_badness_68 ?_
            refine lv_icmp_ge (tgt := 111) hx hb dX8_badness_69 (by decide) (fun c69 => ?_) (fun c69 => ?_)
            · have hv := (if_pos c69).symm.trans hv
              refine lv_iload_n hx hb dX8_badness_111 rfl (lv_at hl 2 rfl) ?_
              exact W.iret (v := x2) hx hb hr (fun t ht hW => ⟨x2, rfl, hv, ht⟩) (fun _ h => nomatch h) dX8_badness_112 (hlocks := hlocks)
            · have hv := (if_neg c69).symm.trans hv
              have f1 := inW.v (r := M.1.2 1) hv0 (inX.of i0 c69)
              refine lv_iload_n hx hb dX8_badness_72 rfl (lv_at hl 2 rfl) ?_
              refine lv_aload_n hx hb dX8_badness_73 rfl (lv_at hl 0 rfl) ?_
              refine va_get (D := D) (ci := 8) (v := .ref (w 1)) (C := RX8) (T := TX8) (N := 14) hx hb hts iw_X8 hown hK hP 0 rfl rfl 1 (by decide) (hts _ w_fl_X8_7) (fun _ h9 => h9) rfl dX8_badness_74 ?_
              refine lv_sipush (v := 294) hx hb dX8_badness_77 (by decide) ?_
              refine lv_iload_n hx hb dX8_badness_80 rfl (lv_at hl 3 rfl) ?_
              refine lv_iadd hx hb dX8_badness_81 ?_
              refine va_iald (cA := cs 0) (n := 414) (f := (M.1.2 1)) hx hb hK hP 1 0 rfl rfl (vp_off (K := 294) rfl (by assumption) (by decide) (by decide)) dX8_badness_82 ?_
              refine lv_iload_n hx hb dX8_badness_83 rfl (lv_at hl 1 rfl) ?_
              refine join_i (J := 103) (ls := ls) (rest := [.int x2]) (b2i (if ((M.1.2 1) (294 + x3).toNatClampNeg) = p1 then (if (sX8_isWrong (M.1.2 1) x3) = true then true else false) else false)) ?_ (fun hJ => ?_)
              · refine lv_iadd hx hb dX8_badness_103 ?_
                refine lv_istore_n (lv' := [(2, .int (x2 + (b2i (if ((M.1.2 1) (294 + x3).toNatClampNeg) = p1 then (if (sX8_isWrong (M.1.2 1) x3) = true then true else false) else false)))), (0, .ref (w 0)), (1, .int p1), (3, .int x3)]) hx hb dX8_badness_104 rfl hl (by decide) rfl (fun ls hl => ?_)
                refine lv_iinc (v := x3 + 1) (lv' := [(3, .int (x3 + 1)), (2, .int (x2 + (b2i (if ((M.1.2 1) (294 + x3).toNatClampNeg) = p1 then (if (sX8_isWrong (M.1.2 1) x3) = true then true else false) else false)))), (0, .ref (w 0)), (1, .int p1)]) hx hb dX8_badness_105 hl (k := 3) rfl rfl (by decide) rfl (fun ls hl => ?_)
                refine lv_goto (tgt := 62) hx hb dX8_badness_108 (by decide) ?_
                exact ih (x2 + (b2i (if ((M.1.2 1) (294 + x3).toNatClampNeg) = p1 then (if (sX8_isWrong (M.1.2 1) x3) = true then true else false) else false))) (x3 + 1) (upM_s c69 hm) (nn_inc i0 c69) hv ls (lv_sub hl [2, 3, 1, 0] rfl)
              · refine lv_icmp_ne (tgt := 102) hx hb dX8_badness_84 (by decide) (fun c84 => ?_) (fun c84 => ?_)
                · refine lv_iconst (v := 0) hx hb dX8_badness_102 (by decide) ?_
                  exact hJ _ (congrArg b2i ((if_neg c84).trans rfl))
                · refine lv_aload_n hx hb dX8_badness_87 rfl (lv_at hl 0 rfl) ?_
                  refine va_get (D := D) (ci := 8) (v := .ref (w 1)) (C := RX8) (T := TX8) (N := 14) hx hb hts iw_X8 hown hK hP 0 rfl rfl 1 (by decide) (hts _ w_fl_X8_7) (fun _ h9 => h9) rfl dX8_badness_88 ?_
                  refine lv_iload_n hx hb dX8_badness_91 rfl (lv_at hl 3 rfl) ?_
                  refine ro_i (b2i (sX8_isWrong (M.1.2 1) x3)) (run_c (va_runS (As := [.ref (w 1), .int x3]) (rest := [.int x2]) ⟨hx, hb, hml, hown, hts⟩ (c_X8_isWrong l D cs (w 1) (M.1.2 1) x3 hv0 (inX.of i0 c69)) (cwS 2 hts (good_S w_ml_X8_81 w_st_X8_isWrong w_in_X8 w_co_X8_isWrong) rfl rfl rfl ⟨rfl, hd_X8_isWrong⟩ ⟨Nat.le_of_ble_eq_true rfl, Nat.le_of_ble_eq_true rfl⟩) (pe_S (hP.sub (ws' := rowW cs (w 1) (M.1.2 1)) [1] rfl) hE) rfl rfl hl.1 rfl (lv_room (Nat.le_of_ble_eq_true rfl)) dX8_badness_92 ⟨Nat.zero_le _, Nat.zero_le _⟩)) ?_
                  refine lv_if_eq (tgt := 102) hx hb dX8_badness_95 (by decide) (fun c95 => ?_) (fun c95 => ?_)
                  · have c95 := b2i_f c95
                    refine lv_iconst (v := 0) hx hb dX8_badness_102 (by decide) ?_
                    exact hJ _ (congrArg b2i ((if_pos c84).trans ((if_neg c95).trans rfl)))
                  · have c95 := b2i_t c95
                    refine lv_iconst (v := 1) hx hb dX8_badness_98 (by decide) ?_
                    refine lv_goto (tgt := 103) hx hb dX8_badness_99 (by decide) ?_
                    exact hJ _ (congrArg b2i ((if_pos c84).trans ((if_pos c95).trans rfl)))
        exact LOOP _ x2 0 (Nat.lt_succ_self _) (by decide) hv ls (lv_sub hl [1, 2, 3, 0] rfl)
      · have hv := (if_neg c11).symm.trans hv
        have f1 := cnt_in hv0.2.1.2 i0 c11
        refine lv_iload_n hx hb dX8_badness_14 rfl (lv_at hl 2 rfl) ?_
        refine lv_aload_n hx hb dX8_badness_15 rfl (lv_at hl 0 rfl) ?_
        refine va_get (D := D) (ci := 8) (v := .ref (w 1)) (C := RX8) (T := TX8) (N := 14) hx hb hts iw_X8 hown hK hP 0 rfl rfl 1 (by decide) (hts _ w_fl_X8_7) (fun _ h9 => h9) rfl dX8_badness_16 ?_
        refine lv_sipush (v := 198) hx hb dX8_badness_19 (by decide) ?_
        refine lv_iload_n hx hb dX8_badness_22 rfl (lv_at hl 3 rfl) ?_
        refine lv_iadd hx hb dX8_badness_23 ?_
        refine va_iald (cA := cs 0) (n := 414) (f := (M.1.2 1)) hx hb hK hP 1 0 rfl rfl (vp_off (K := 198) rfl (by assumption) (by decide) (by decide)) dX8_badness_24 ?_
        refine lv_iload_n hx hb dX8_badness_25 rfl (lv_at hl 1 rfl) ?_
        refine join_i (J := 52) (ls := ls) (rest := [.int x2]) ((if ((M.1.2 1) (198 + x3).toNatClampNeg) = p1 then (if (sX8_isOverdue (M.1.2 1) x3 ((M.1.2 1) (3 : Int32).toNatClampNeg)) = true then (100 : Int32) else (0 : Int32)) else (0 : Int32))) ?_ (fun hJ => ?_)
        · refine lv_iadd hx hb dX8_badness_52 ?_
          refine lv_istore_n (lv' := [(2, .int (x2 + (if ((M.1.2 1) (198 + x3).toNatClampNeg) = p1 then (if (sX8_isOverdue (M.1.2 1) x3 ((M.1.2 1) (3 : Int32).toNatClampNeg)) = true then (100 : Int32) else (0 : Int32)) else (0 : Int32)))), (0, .ref (w 0)), (1, .int p1), (3, .int x3)]) hx hb dX8_badness_53 rfl hl (by decide) rfl (fun ls hl => ?_)
          refine lv_iinc (v := x3 + 1) (lv' := [(3, .int (x3 + 1)), (2, .int (x2 + (if ((M.1.2 1) (198 + x3).toNatClampNeg) = p1 then (if (sX8_isOverdue (M.1.2 1) x3 ((M.1.2 1) (3 : Int32).toNatClampNeg)) = true then (100 : Int32) else (0 : Int32)) else (0 : Int32)))), (0, .ref (w 0)), (1, .int p1)]) hx hb dX8_badness_54 hl (k := 3) rfl rfl (by decide) rfl (fun ls hl => ?_)
          refine lv_goto (tgt := 4) hx hb dX8_badness_57 (by decide) ?_
          exact ih (x2 + (if ((M.1.2 1) (198 + x3).toNatClampNeg) = p1 then (if (sX8_isOverdue (M.1.2 1) x3 ((M.1.2 1) (3 : Int32).toNatClampNeg)) = true then (100 : Int32) else (0 : Int32)) else (0 : Int32))) (x3 + 1) (upM_s c11 hm) (nn_inc i0 c11) hv ls (lv_sub hl [2, 3, 1, 0] rfl)
        · refine lv_icmp_ne (tgt := 51) hx hb dX8_badness_26 (by decide) (fun c26 => ?_) (fun c26 => ?_)
          · refine lv_iconst (v := 0) hx hb dX8_badness_51 (by decide) ?_
            exact hJ _ ((if_neg c26).trans rfl)
          · refine lv_aload_n hx hb dX8_badness_29 rfl (lv_at hl 0 rfl) ?_
            refine va_get (D := D) (ci := 8) (v := .ref (w 1)) (C := RX8) (T := TX8) (N := 14) hx hb hts iw_X8 hown hK hP 0 rfl rfl 1 (by decide) (hts _ w_fl_X8_7) (fun _ h9 => h9) rfl dX8_badness_30 ?_
            refine lv_iload_n hx hb dX8_badness_33 rfl (lv_at hl 3 rfl) ?_
            refine lv_aload_n hx hb dX8_badness_34 rfl (lv_at hl 0 rfl) ?_
            refine va_get (D := D) (ci := 8) (v := .ref (w 1)) (C := RX8) (T := TX8) (N := 14) hx hb hts iw_X8 hown hK hP 0 rfl rfl 1 (by decide) (hts _ w_fl_X8_7) (fun _ h9 => h9) rfl dX8_badness_35 ?_
            refine lv_iconst (v := 3) hx hb dX8_badness_38 (by decide) ?_
            refine va_iald (cA := cs 0) (n := 414) (f := (M.1.2 1)) hx hb hK hP 1 0 rfl rfl (by unfold vp_in; decide) dX8_badness_39 ?_
            refine ro_i (b2i (sX8_isOverdue (M.1.2 1) x3 ((M.1.2 1) (3 : Int32).toNatClampNeg))) (run_c (va_runS (As := [.ref (w 1), .int x3, .int ((M.1.2 1) (3 : Int32).toNatClampNeg)]) (rest := [.int x2]) ⟨hx, hb, hml, hown, hts⟩ (c_X8_isOverdue l D cs (w 1) (M.1.2 1) x3 ((M.1.2 1) (3 : Int32).toNatClampNeg) f1) (cwS 3 hts (good_S w_ml_X8_84 w_st_X8_isOverdue w_in_X8 w_co_X8_isOverdue) rfl rfl rfl ⟨rfl, hd_X8_isOverdue⟩ ⟨Nat.le_of_ble_eq_true rfl, Nat.le_of_ble_eq_true rfl⟩) (pe_S (hP.sub (ws' := rowW cs (w 1) (M.1.2 1)) [1] rfl) hE) rfl rfl hl.1 rfl (lv_room (Nat.le_of_ble_eq_true rfl)) dX8_badness_40 ⟨Nat.zero_le _, Nat.zero_le _⟩)) ?_
            refine lv_if_eq (tgt := 51) hx hb dX8_badness_43 (by decide) (fun c43 => ?_) (fun c43 => ?_)
            · have c43 := b2i_f c43
              refine lv_iconst (v := 0) hx hb dX8_badness_51 (by decide) ?_
              exact hJ _ ((if_pos c26).trans ((if_neg c43).trans rfl))
            · have c43 := b2i_t c43
              refine lv_bipush (v := 100) hx hb dX8_badness_46 (by decide) ?_
              refine lv_goto (tgt := 52) hx hb dX8_badness_48 (by decide) ?_
              exact hJ _ ((if_pos c26).trans ((if_pos c43).trans rfl))
  exact LOOP _ 0 0 (Nat.lt_succ_self _) (by decide) hv ls (lv_sub hl [2, 3, 1, 0] rfl)
theorem hd_X8_worst : yX8_worst.cls ≠ "java/lang/invoke/MethodHandle" ∧ yX8_worst.cls ≠ "java/lang/invoke/VarHandle" ∧ (parseMethodDescriptor yX8_worst.desc).map (fun d => d.parameters.length) = some 0 := by decide +kernel
def LX8_worst_9 (M : MS) : Nat → Int32 → Int32 → Int32 × MS
  | 0 => fun _ _ => (0, M)
  | n + 1 => fun x1 x2 => (if 4 ≤ x2 then (x1, (msS M 0 0)) else (LX8_worst_9 M n (if (sX8_badness (msS M 0 0) x2) ≤ (sX8_badness (msS M 0 0) x1) then x1 else x2) (x2 + 1)))
theorem LX8_worst_9_eq (M : MS) (n : Nat) (x1 : Int32) (x2 : Int32) : LX8_worst_9 M (n + 1) x1 x2 = (if 4 ≤ x2 then (x1, (msS M 0 0)) else (LX8_worst_9 M n (if (sX8_badness (msS M 0 0) x2) ≤ (sX8_badness (msS M 0 0) x1) then x1 else x2) (x2 + 1))) := rfl
def sX8_worst (M : MS) : Int32 × MS := (LX8_worst_9 M (upM 4 1 + 1) 0 1)
set_option maxHeartbeats 4000000 in
set_option maxRecDepth 100000 in
theorem c_X8_worst (l : Launch) (D : va_G) (cs : Nat → ClassId) (w : Nat → Nat) (M : MS) (hd : mD w) (hv0 : MV (M.1.2 1)) : Met l yX8_worst (wc yX8_worst cX8_worst 3 (some .int)) ({ frames := 4, cells := 0, slots := 0, locals := 87 } : Room) (va_Pc [.ref (w 0)] (PE D cs (mW cs w M))) (va_Qi (fun (r9 : Int32) (u : MS) => r9 = (sX8_worst M).1 ∧ u = (sX8_worst M).2) (fun u t => va_P D vwC (mW cs w u) t.heap) (mA w)) 0 0 (mA w) := by
  obtain ⟨v, hv⟩ : ∃ v, sX8_worst M = v := ⟨_, rfl⟩
  rw [hv]
  refine met_o (lv := [(0, .ref (w 0))]) (by decide) (Nat.le_of_ble_eq_true rfl) rfl ?_
  intro p e s m args below meth c ls hx hb hr hml hts hown hlocks hin hP hE hl
  have hown : s.vm.findClass RX8 = some m.cls := hown
  have hK := hE.1
  have hP : va_P D vwC (mW cs w M) s.heap := hP
  have hS : va_S (mA w) s.heap s.heap [] := va_S.rf
  unfold sX8_worst at hv
  refine lv_aload_n hx hb dX8_worst_0 rfl (lv_at hl 0 rfl) ?_
  refine lv_iconst (v := 0) hx hb dX8_worst_1 (by decide) ?_
  refine va_put (D := D) (ci := 8) (v := .int 0) (ty := .int) (C := RX8) (T := TX8) (N := 14) hx hb hts iw_X8 tyX8 tyX8_ok nmX8 hown hK hP (m_D cs M hd) hS 0 rfl rfl 0 (by decide) (hts _ w_fl_X8_36) (fun _ h9 => h9) rfl (by decide +kernel) rfl rfl (Nat.le_of_ble_eq_true rfl) dX8_worst_2 (fun H locs hP _ hS => ?_)
  have hP : va_P D vwC (mW cs w (msS M 0 0)) H := hP
  refine lv_iconst (v := 0) hx hb dX8_worst_5 (by decide) ?_
  refine lv_istore_n (lv' := [(1, .int 0), (0, .ref (w 0))]) hx hb dX8_worst_6 rfl hl (by decide) rfl (fun ls hl => ?_)
  refine lv_iconst (v := 1) hx hb dX8_worst_7 (by decide) ?_
  refine lv_istore_n (lv' := [(2, .int 1), (1, .int 0), (0, .ref (w 0))]) hx hb dX8_worst_8 rfl hl (by decide) rfl (fun ls hl => ?_)
  have LOOP : ∀ (n : Nat) (x1 : Int32) (x2 : Int32), upM 4 x2 < n → LX8_worst_9 M n x1 x2 = v → ∀ (H : Heap) (locs : List Loc), va_P D vwC (mW cs w (msS M 0 0)) H → va_S (mA w) s.heap H locs → ∀ ls : Array Slot, lv_has ls 3 [(0, .ref (w 0)), (1, .int x1), (2, .int x2)] → W p l e ({ frames := 4, cells := 0, slots := 0, locals := 87 } : Room) s m args below meth c H locs 0 0 (MQ below (va_Qi (fun (r9 : Int32) (u : MS) => r9 = v.1 ∧ u = v.2) (fun u t => va_P D vwC (mW cs w u) t.heap) (mA w)) args s 0 0 (mA w)) (F0 m 9 ls []) := by
    clear hv
    intro n
    induction n with
    | zero => intro x1 x2 hm; exact absurd hm (Nat.not_lt_zero _)
    | succ n ih =>
      intro x1 x2 hm hv H locs hP hS ls hl
      have hv := (LX8_worst_9_eq M n x1 x2).symm.trans hv
      refine lv_iload_n hx hb dX8_worst_9 rfl (lv_at hl 2 rfl) ?_
      refine lv_iconst (v := 4) hx hb dX8_worst_10 (by decide) ?_
      refine lv_icmp_ge (tgt := 39) hx hb dX8_worst_11 (by decide) (fun c11 => ?_) (fun c11 => ?_)
      · have hv := (if_pos c11).symm.trans hv
        refine lv_iload_n hx hb dX8_worst_39 rfl (lv_at hl 1 rfl) ?_
        exact W.iret (v := x1) hx hb hr (fun t ht hW => ⟨⟨x1, (msS M 0 0), rfl, pair_eq hv, pw ht hP⟩, hS.F ht⟩) hS.2.2 dX8_worst_40 (hlocks := hlocks)
      · have hv := (if_neg c11).symm.trans hv
        refine lv_aload_n hx hb dX8_worst_14 rfl (lv_at hl 0 rfl) ?_
        refine lv_iload_n hx hb dX8_worst_15 rfl (lv_at hl 2 rfl) ?_
        refine ro_i (sX8_badness (msS M 0 0) x2) (run_c (va_runV (As := [.int x2]) (rest := []) ⟨hx, hb, hml, hown, hts⟩ (c_X8_badness l D cs w (msS M 0 0) x2 hv0) (cwV 1 hts (good_V w_ml_X8_289 w_im_X8_badness w_se_X8_badness w_in_X8 w_co_X8_badness) rfl rfl rfl ⟨rfl, hd_X8_badness⟩ ⟨Nat.le_of_ble_eq_true rfl, Nat.le_of_ble_eq_true rfl⟩) (pe_W (C := RX8) (T := TX8) (N := 14) (ci := 8) (q0 := 0) hP hE rfl rfl) rfl rfl hl.1 rfl (lv_room (Nat.le_of_ble_eq_true rfl)) dX8_worst_16 ⟨Nat.zero_le _, Nat.zero_le _⟩)) ?_
        refine lv_aload_n hx hb dX8_worst_19 rfl (lv_at hl 0 rfl) ?_
        refine lv_iload_n hx hb dX8_worst_20 rfl (lv_at hl 1 rfl) ?_
        refine ro_i (sX8_badness (msS M 0 0) x1) (run_c (va_runV (As := [.int x1]) (rest := [.int (sX8_badness (msS M 0 0) x2)]) ⟨hx, hb, hml, hown, hts⟩ (c_X8_badness l D cs w (msS M 0 0) x1 hv0) (cwV 1 hts (good_V w_ml_X8_289 w_im_X8_badness w_se_X8_badness w_in_X8 w_co_X8_badness) rfl rfl rfl ⟨rfl, hd_X8_badness⟩ ⟨Nat.le_of_ble_eq_true rfl, Nat.le_of_ble_eq_true rfl⟩) (pe_W (C := RX8) (T := TX8) (N := 14) (ci := 8) (q0 := 0) hP hE rfl rfl) rfl rfl hl.1 rfl (lv_room (Nat.le_of_ble_eq_true rfl)) dX8_worst_21 ⟨Nat.zero_le _, Nat.zero_le _⟩)) ?_
        refine join_i (J := 32) (ls := ls) (rest := []) ((if (sX8_badness (msS M 0 0) x2) ≤ (sX8_badness (msS M 0 0) x1) then x1 else x2)) ?_ (fun hJ => ?_)
        · refine lv_istore_n (lv' := [(1, .int (if (sX8_badness (msS M 0 0) x2) ≤ (sX8_badness (msS M 0 0) x1) then x1 else x2)), (0, .ref (w 0)), (2, .int x2)]) hx hb dX8_worst_32 rfl hl (by decide) rfl (fun ls hl => ?_)
          refine lv_iinc (v := x2 + 1) (lv' := [(2, .int (x2 + 1)), (1, .int (if (sX8_badness (msS M 0 0) x2) ≤ (sX8_badness (msS M 0 0) x1) then x1 else x2)), (0, .ref (w 0))]) hx hb dX8_worst_33 hl (k := 2) rfl rfl (by decide) rfl (fun ls hl => ?_)
          refine lv_goto (tgt := 9) hx hb dX8_worst_36 (by decide) ?_
          exact ih (if (sX8_badness (msS M 0 0) x2) ≤ (sX8_badness (msS M 0 0) x1) then x1 else x2) (x2 + 1) (upM_s c11 hm) hv _ _ hP hS ls (lv_sub hl [2, 1, 0] rfl)
        · refine lv_icmp_le (tgt := 31) hx hb dX8_worst_24 (by decide) (fun c24 => ?_) (fun c24 => ?_)
          · refine lv_iload_n hx hb dX8_worst_31 rfl (lv_at hl 1 rfl) ?_
            exact hJ _ ((if_pos c24).trans rfl)
          · refine lv_iload_n hx hb dX8_worst_27 rfl (lv_at hl 2 rfl) ?_
            refine lv_goto (tgt := 32) hx hb dX8_worst_28 (by decide) ?_
            exact hJ _ ((if_neg c24).trans rfl)
  exact LOOP _ 0 1 (Nat.lt_succ_self _) hv _ _ hP hS ls (lv_sub hl [2, 1, 0] rfl)
theorem hd_X8_common : yX8_common.cls ≠ "java/lang/invoke/MethodHandle" ∧ yX8_common.cls ≠ "java/lang/invoke/VarHandle" ∧ (parseMethodDescriptor yX8_common.desc).map (fun d => d.parameters.length) = some 2 := by decide +kernel
def LX8_common_38 (M : MS) (p1 : Int32) (p2 : Int32) : Nat → Int32 → Int32 × MS
  | 0 => fun _ => (0, M)
  | n + 1 => fun x3 => (if x3 = (-1) then (x3, (msS M 0 (b2i (if (sX8_hasSheet (M.1.2 1) p1) = true then (if (sX8_hasSheet (M.1.2 1) p2) = true then false else true) else true)))) else (if (sX8_isUnder (M.1.2 1) p2 x3) = true then (x3, (msS M 0 (b2i (if (sX8_hasSheet (M.1.2 1) p1) = true then (if (sX8_hasSheet (M.1.2 1) p2) = true then false else true) else true)))) else (LX8_common_38 M p1 p2 n ((M.1.2 1) (10 + x3).toNatClampNeg))))
theorem LX8_common_38_eq (M : MS) (p1 : Int32) (p2 : Int32) (n : Nat) (x3 : Int32) : LX8_common_38 M p1 p2 (n + 1) x3 = (if x3 = (-1) then (x3, (msS M 0 (b2i (if (sX8_hasSheet (M.1.2 1) p1) = true then (if (sX8_hasSheet (M.1.2 1) p2) = true then false else true) else true)))) else (if (sX8_isUnder (M.1.2 1) p2 x3) = true then (x3, (msS M 0 (b2i (if (sX8_hasSheet (M.1.2 1) p1) = true then (if (sX8_hasSheet (M.1.2 1) p2) = true then false else true) else true)))) else (LX8_common_38 M p1 p2 n ((M.1.2 1) (10 + x3).toNatClampNeg)))) := rfl
def sX8_common (M : MS) (p1 : Int32) (p2 : Int32) : Int32 × MS := (if (refB (b2i (if (sX8_hasSheet (M.1.2 1) p1) = true then (if (sX8_hasSheet (M.1.2 1) p2) = true then false else true) else true))) = true then (0, (msS M 0 (b2i (if (sX8_hasSheet (M.1.2 1) p1) = true then (if (sX8_hasSheet (M.1.2 1) p2) = true then false else true) else true)))) else (LX8_common_38 M p1 p2 (dnM p1 + 1) p1))
set_option maxHeartbeats 4000000 in
set_option maxRecDepth 100000 in
theorem c_X8_common (l : Launch) (D : va_G) (cs : Nat → ClassId) (w : Nat → Nat) (M : MS) (p1 : Int32) (p2 : Int32) (hd : mD w) (hv0 : MV (M.1.2 1)) : Met l yX8_common (wc yX8_common cX8_common 4 (some .int)) ({ frames := 2, cells := 0, slots := 0, locals := 46 } : Room) (va_Pc [.ref (w 0), .int p1, .int p2] (PE D cs (mW cs w M))) (va_Qi (fun (r9 : Int32) (u : MS) => r9 = (sX8_common M p1 p2).1 ∧ u = (sX8_common M p1 p2).2) (fun u t => va_P D vwC (mW cs w u) t.heap) (mA w)) 0 0 (mA w) := by
  obtain ⟨v, hv⟩ : ∃ v, sX8_common M p1 p2 = v := ⟨_, rfl⟩
  rw [hv]
  refine met_o (lv := [(0, .ref (w 0)), (1, .int p1), (2, .int p2)]) (by decide) (Nat.le_of_ble_eq_true rfl) rfl ?_
  intro p e s m args below meth c ls hx hb hr hml hts hown hlocks hin hP hE hl
  have hown : s.vm.findClass RX8 = some m.cls := hown
  have hK := hE.1
  have hP : va_P D vwC (mW cs w M) s.heap := hP
  have hS : va_S (mA w) s.heap s.heap [] := va_S.rf
  unfold sX8_common at hv
  refine lv_aload_n hx hb dX8_common_0 rfl (lv_at hl 0 rfl) ?_
  refine lv_aload_n hx hb dX8_common_1 rfl (lv_at hl 0 rfl) ?_
  refine va_get (D := D) (ci := 8) (v := .ref (w 1)) (C := RX8) (T := TX8) (N := 14) hx hb hts iw_X8 hown hK hP 0 rfl rfl 1 (by decide) (hts _ w_fl_X8_7) (fun _ h9 => h9) rfl dX8_common_2 ?_
  refine lv_iload_n hx hb dX8_common_5 rfl (lv_at hl 1 rfl) ?_
  refine ro_i (b2i (sX8_hasSheet (M.1.2 1) p1)) (run_c (va_runS (As := [.ref (w 1), .int p1]) (rest := [.ref (w 0)]) ⟨hx, hb, hml, hown, hts⟩ (c_X8_hasSheet l D cs (w 1) (M.1.2 1) p1) (cwS 2 hts (good_S w_ml_X8_139 w_st_X8_hasSheet w_in_X8 w_co_X8_hasSheet) rfl rfl rfl ⟨rfl, hd_X8_hasSheet⟩ ⟨Nat.le_of_ble_eq_true rfl, Nat.le_of_ble_eq_true rfl⟩) (pe_S (hP.sub (ws' := rowW cs (w 1) (M.1.2 1)) [1] rfl) hE) rfl rfl hl.1 rfl (lv_room (Nat.le_of_ble_eq_true rfl)) dX8_common_6 ⟨Nat.zero_le _, Nat.zero_le _⟩)) ?_
  refine join_i (J := 28) (ls := ls) (rest := [.ref (w 0)]) (b2i (if (sX8_hasSheet (M.1.2 1) p1) = true then (if (sX8_hasSheet (M.1.2 1) p2) = true then false else true) else true)) ?_ (fun hJ => ?_)
  · refine w_b (refB (b2i (if (sX8_hasSheet (M.1.2 1) p1) = true then (if (sX8_hasSheet (M.1.2 1) p2) = true then false else true) else true)), (msS M 0 (b2i (if (sX8_hasSheet (M.1.2 1) p1) = true then (if (sX8_hasSheet (M.1.2 1) p2) = true then false else true) else true)))) (va_runV (As := [.int (b2i (if (sX8_hasSheet (M.1.2 1) p1) = true then (if (sX8_hasSheet (M.1.2 1) p2) = true then false else true) else true))]) (rest := []) ⟨hx, hb, hml, hown, hts⟩ (c_X8_refused l D cs w M (b2i (if (sX8_hasSheet (M.1.2 1) p1) = true then (if (sX8_hasSheet (M.1.2 1) p2) = true then false else true) else true)) hd) (cwV 1 hts (good_V w_ml_X8_105 w_im_X8_refused w_se_X8_refused w_in_X8 w_co_X8_refused) rfl rfl rfl ⟨rfl, hd_X8_refused⟩ ⟨Nat.le_of_ble_eq_true rfl, Nat.le_of_ble_eq_true rfl⟩) (pe_W (C := RX8) (T := TX8) (N := 14) (ci := 8) (q0 := 0) hP hE rfl rfl) rfl rfl hl.1 rfl (lv_room (Nat.le_of_ble_eq_true rfl)) dX8_common_28 ⟨Nat.zero_le _, Nat.zero_le _⟩) hS (fun _ _ h => h) (fun _ h => h) (fun t locs hB hz hk hS => ?_)
    have hP : va_P D vwC (mW cs w (msS M 0 (b2i (if (sX8_hasSheet (M.1.2 1) p1) = true then (if (sX8_hasSheet (M.1.2 1) p2) = true then false else true) else true)))) t.heap := hB
    refine lv_if_eq (tgt := 36) hx hb dX8_common_31 (by decide) (fun c31 => ?_) (fun c31 => ?_)
    · have c31 := b2i_f c31
      have hv := (if_neg c31).symm.trans hv
      have f1 := iftb (b2i_f (rf0 c31))
      have f2 := iftb f1.2
      have f3 := hasS_t hv0.1.1 f1.1
      have f4 := hasS_t hv0.1.1 f2.1
      refine lv_iload_n hx hb dX8_common_36 rfl (lv_at hl 1 rfl) ?_
      refine lv_istore_n (lv' := [(3, .int p1), (0, .ref (w 0)), (1, .int p1), (2, .int p2)]) hx hb dX8_common_37 rfl hl (by decide) rfl (fun ls hl => ?_)
      have LOOP : ∀ (n : Nat) (x3 : Int32), dnM x3 < n → (at1 (M.1.2 1) x3) → LX8_common_38 M p1 p2 n x3 = v → ∀ (H : Heap) (locs : List Loc), va_P D vwC (mW cs w (msS M 0 (b2i (if (sX8_hasSheet (M.1.2 1) p1) = true then (if (sX8_hasSheet (M.1.2 1) p2) = true then false else true) else true)))) H → va_S (mA w) s.heap H locs → ∀ ls : Array Slot, lv_has ls 4 [(0, .ref (w 0)), (1, .int p1), (2, .int p2), (3, .int x3)] → W p l e ({ frames := 2, cells := 0, slots := 0, locals := 46 } : Room) s m args below meth c H locs 0 0 (MQ below (va_Qi (fun (r9 : Int32) (u : MS) => r9 = v.1 ∧ u = v.2) (fun u t => va_P D vwC (mW cs w u) t.heap) (mA w)) args s 0 0 (mA w)) (F0 m 38 ls []) := by
        clear hv
        intro n
        induction n with
        | zero => intro x3 hm; exact absurd hm (Nat.not_lt_zero _)
        | succ n ih =>
          intro x3 hm i0 hv H locs hP hS ls hl
          have hv := (LX8_common_38_eq M p1 p2 n x3).symm.trans hv
          refine lv_iload_n hx hb dX8_common_38 rfl (lv_at hl 3 rfl) ?_
          refine lv_iconst (v := (-1)) hx hb dX8_common_39 (by decide) ?_
          refine lv_icmp_eq (tgt := 68) hx hb dX8_common_40 (by decide) (fun c40 => ?_) (fun c40 => ?_)
          · have hv := (if_pos c40).symm.trans hv
            refine lv_iload_n hx hb dX8_common_68 rfl (lv_at hl 3 rfl) ?_
            exact W.iret (v := x3) hx hb hr (fun t ht hW => ⟨⟨x3, (msS M 0 (b2i (if (sX8_hasSheet (M.1.2 1) p1) = true then (if (sX8_hasSheet (M.1.2 1) p2) = true then false else true) else true))), rfl, pair_eq hv, pw ht hP⟩, hS.F ht⟩) hS.2.2 dX8_common_69 (hlocks := hlocks)
          · have hv := (if_neg c40).symm.trans hv
            refine lv_aload_n hx hb dX8_common_43 rfl (lv_at hl 0 rfl) ?_
            refine va_get (D := D) (ci := 8) (v := .ref (w 1)) (C := RX8) (T := TX8) (N := 14) hx hb hts iw_X8 hown hK hP 0 rfl rfl 1 (by decide) (hts _ w_fl_X8_7) (fun _ h9 => h9) rfl dX8_common_44 ?_
            refine lv_iload_n hx hb dX8_common_47 rfl (lv_at hl 2 rfl) ?_
            refine lv_iload_n hx hb dX8_common_48 rfl (lv_at hl 3 rfl) ?_
            refine ro_i (b2i (sX8_isUnder (M.1.2 1) p2 x3)) (run_c (va_runS (As := [.ref (w 1), .int p2, .int x3]) (rest := []) ⟨hx, hb, hml, hown, hts⟩ (c_X8_isUnder l D cs (w 1) (M.1.2 1) p2 x3 hv0 f4.a) (cwS 3 hts (good_S w_ml_X8_58 w_st_X8_isUnder w_in_X8 w_co_X8_isUnder) rfl rfl rfl ⟨rfl, hd_X8_isUnder⟩ ⟨Nat.le_of_ble_eq_true rfl, Nat.le_of_ble_eq_true rfl⟩) (pe_S (hP.sub (ws' := rowW cs (w 1) (M.1.2 1)) [1] rfl) hE) rfl rfl hl.1 rfl (lv_room (Nat.le_of_ble_eq_true rfl)) dX8_common_49 ⟨Nat.zero_le _, Nat.zero_le _⟩)) ?_
            refine lv_if_ne (tgt := 68) hx hb dX8_common_52 (by decide) (fun c52 => ?_) (fun c52 => ?_)
            · have c52 := b2i_t c52
              have hv := (if_pos c52).symm.trans hv
              refine lv_iload_n hx hb dX8_common_68 rfl (lv_at hl 3 rfl) ?_
              exact W.iret (v := x3) hx hb hr (fun t ht hW => ⟨⟨x3, (msS M 0 (b2i (if (sX8_hasSheet (M.1.2 1) p1) = true then (if (sX8_hasSheet (M.1.2 1) p2) = true then false else true) else true))), rfl, pair_eq hv, pw ht hP⟩, hS.F ht⟩) hS.2.2 dX8_common_69 (hlocks := hlocks)
            · have c52 := b2i_f c52
              have hv := (if_neg c52).symm.trans hv
              refine lv_aload_n hx hb dX8_common_55 rfl (lv_at hl 0 rfl) ?_
              refine va_get (D := D) (ci := 8) (v := .ref (w 1)) (C := RX8) (T := TX8) (N := 14) hx hb hts iw_X8 hown hK hP 0 rfl rfl 1 (by decide) (hts _ w_fl_X8_7) (fun _ h9 => h9) rfl dX8_common_56 ?_
              refine lv_bipush (v := 10) hx hb dX8_common_59 (by decide) ?_
              refine lv_iload_n hx hb dX8_common_61 rfl (lv_at hl 3 rfl) ?_
              refine lv_iadd hx hb dX8_common_62 ?_
              refine va_iald (cA := cs 0) (n := 414) (f := (M.1.2 1)) hx hb hK hP 1 0 rfl rfl (vp_off (K := 10) rfl ((i0.s c40).v hv0) (by decide) (by decide)) dX8_common_63 ?_
              refine lv_istore_n (lv' := [(3, .int ((M.1.2 1) (10 + x3).toNatClampNeg)), (0, .ref (w 0)), (1, .int p1), (2, .int p2)]) hx hb dX8_common_64 rfl hl (by decide) rfl (fun ls hl => ?_)
              refine lv_goto (tgt := 38) hx hb dX8_common_65 (by decide) ?_
              exact ih ((M.1.2 1) (10 + x3).toNatClampNeg) ((hv0.dn (i0.s c40) hm)) ((hv0.up (i0.s c40)).1) hv _ _ hP hS ls (lv_sub hl [1, 2, 3, 0] rfl)
      exact LOOP _ p1 (Nat.lt_succ_self _) f3.a hv _ _ hP hS ls (lv_sub hl [1, 2, 3, 0] rfl)
    · have c31 := b2i_t c31
      have hv := (if_pos c31).symm.trans hv
      refine lv_iconst (v := 0) hx hb dX8_common_34 (by decide) ?_
      exact W.iret (v := 0) hx hb hr (fun t ht hW => ⟨⟨0, (msS M 0 (b2i (if (sX8_hasSheet (M.1.2 1) p1) = true then (if (sX8_hasSheet (M.1.2 1) p2) = true then false else true) else true))), rfl, pair_eq hv, pw ht hP⟩, hS.F ht⟩) hS.2.2 dX8_common_35 (hlocks := hlocks)
  · refine lv_if_eq (tgt := 27) hx hb dX8_common_9 (by decide) (fun c9 => ?_) (fun c9 => ?_)
    · have c9 := b2i_f c9
      refine lv_iconst (v := 1) hx hb dX8_common_27 (by decide) ?_
      exact hJ _ (congrArg b2i ((if_neg c9).trans rfl))
    · have c9 := b2i_t c9
      refine lv_aload_n hx hb dX8_common_12 rfl (lv_at hl 0 rfl) ?_
      refine va_get (D := D) (ci := 8) (v := .ref (w 1)) (C := RX8) (T := TX8) (N := 14) hx hb hts iw_X8 hown hK hP 0 rfl rfl 1 (by decide) (hts _ w_fl_X8_7) (fun _ h9 => h9) rfl dX8_common_13 ?_
      refine lv_iload_n hx hb dX8_common_16 rfl (lv_at hl 2 rfl) ?_
      refine ro_i (b2i (sX8_hasSheet (M.1.2 1) p2)) (run_c (va_runS (As := [.ref (w 1), .int p2]) (rest := [.ref (w 0)]) ⟨hx, hb, hml, hown, hts⟩ (c_X8_hasSheet l D cs (w 1) (M.1.2 1) p2) (cwS 2 hts (good_S w_ml_X8_139 w_st_X8_hasSheet w_in_X8 w_co_X8_hasSheet) rfl rfl rfl ⟨rfl, hd_X8_hasSheet⟩ ⟨Nat.le_of_ble_eq_true rfl, Nat.le_of_ble_eq_true rfl⟩) (pe_S (hP.sub (ws' := rowW cs (w 1) (M.1.2 1)) [1] rfl) hE) rfl rfl hl.1 rfl (lv_room (Nat.le_of_ble_eq_true rfl)) dX8_common_17 ⟨Nat.zero_le _, Nat.zero_le _⟩)) ?_
      refine lv_if_eq (tgt := 27) hx hb dX8_common_20 (by decide) (fun c20 => ?_) (fun c20 => ?_)
      · have c20 := b2i_f c20
        refine lv_iconst (v := 1) hx hb dX8_common_27 (by decide) ?_
        exact hJ _ (congrArg b2i ((if_pos c9).trans ((if_neg c20).trans rfl)))
      · have c20 := b2i_t c20
        refine lv_iconst (v := 0) hx hb dX8_common_23 (by decide) ?_
        refine lv_goto (tgt := 28) hx hb dX8_common_24 (by decide) ?_
        exact hJ _ (congrArg b2i ((if_pos c9).trans ((if_pos c20).trans rfl)))
