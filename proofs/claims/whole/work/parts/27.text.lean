theorem hd_X2_isFull : yX2_isFull.cls ≠ "java/lang/invoke/MethodHandle" ∧ yX2_isFull.cls ≠ "java/lang/invoke/VarHandle" ∧ (parseMethodDescriptor yX2_isFull.desc).map (fun d => d.parameters.length) = some 0 := by decide +kernel
def sX2_isFull (T : OF) : Bool := (if (T.1 0) < 120 then false else true)
set_option maxHeartbeats 4000000 in
set_option maxRecDepth 100000 in
theorem c_X2_isFull (l : Launch) (D : va_G) (cs : Nat → ClassId) (z : Nat → Nat) (A : Nat → Nat → Nat) (T : OF) : Met l yX2_isFull (wc yX2_isFull cX2_isFull 1 (some .boolean)) ({ frames := 0, cells := 0, slots := 0, locals := 0 } : Room) (va_Pc [.ref (z 1)] (PE D cs (zW cs z A T))) (vp_Si (fun r9 => r9 = b2i (sX2_isFull T))) 0 0 (fun _ => False) := by
  obtain ⟨v, hv⟩ : ∃ v, sX2_isFull T = v := ⟨_, rfl⟩
  rw [hv]
  refine met_o (lv := [(0, .ref (z 1))]) (by decide) (Nat.le_of_ble_eq_true rfl) rfl ?_
  intro p e s m args below meth c ls hx hb hr hml hts hown hlocks hin hP hE hl
  have hown : s.vm.findClass RX2 = some m.cls := hown
  have hK := hE.1
  have hP : va_P D vwC (zW cs z A T) s.heap := hP
  unfold sX2_isFull at hv
  refine lv_aload_n hx hb dX2_isFull_0 rfl (lv_at hl 0 rfl) ?_
  refine va_get (D := D) (ci := 2) (v := .int (T.1 0)) (C := RX2) (T := TX2) (N := 7) hx hb hts iw_X2 hown hK hP 1 rfl rfl 1 (by decide) (hts _ w_fl_X2_25) (fun _ h9 => h9) rfl dX2_isFull_1 ?_
  refine lv_bipush (v := 120) hx hb dX2_isFull_4 (by decide) ?_
  refine join_i (J := 14) (ls := ls) (rest := []) (b2i (if (T.1 0) < 120 then false else true)) ?_ (fun hJ => ?_)
  · exact W.zret (ty := .boolean) (v := b2i (if (T.1 0) < 120 then false else true)) hx hb hr (b2i_nar (if (T.1 0) < 120 then false else true)) (fun t ht hW => ⟨b2i (if (T.1 0) < 120 then false else true), rfl, congrArg b2i hv, ht⟩) (fun _ h => nomatch h) dX2_isFull_14 (hlocks := hlocks)
  · refine lv_icmp_lt (tgt := 13) hx hb dX2_isFull_6 (by decide) (fun c6 => ?_) (fun c6 => ?_)
    · refine lv_iconst (v := 0) hx hb dX2_isFull_13 (by decide) ?_
      exact hJ _ (congrArg b2i ((if_pos c6).trans rfl))
    · refine lv_iconst (v := 1) hx hb dX2_isFull_9 (by decide) ?_
      refine lv_goto (tgt := 14) hx hb dX2_isFull_10 (by decide) ?_
      exact hJ _ (congrArg b2i ((if_neg c6).trans rfl))
theorem hd_X2_add : yX2_add.cls ≠ "java/lang/invoke/MethodHandle" ∧ yX2_add.cls ≠ "java/lang/invoke/VarHandle" ∧ (parseMethodDescriptor yX2_add.desc).map (fun d => d.parameters.length) = some 1 := by decide +kernel
def sX2_add (T : OF) (p1 : Int32) : Int32 × OF := (if (T.1 0) < 0 then ((T.1 0), T) else (if 120 ≤ (T.1 0) then ((T.1 0), T) else ((T.1 0) + 1, (stS (stA T 2 (upd (T.2 2) (T.1 0).toNatClampNeg (vp_nar .char p1))) 0 ((T.1 0) + 1)))))
set_option maxHeartbeats 4000000 in
set_option maxRecDepth 100000 in
theorem c_X2_add (l : Launch) (D : va_G) (cs : Nat → ClassId) (z : Nat → Nat) (A : Nat → Nat → Nat) (T : OF) (p1 : Int32) (hd : tD z A) : Met l yX2_add (wc yX2_add cX2_add 2 (some .int)) ({ frames := 0, cells := 0, slots := 0, locals := 0 } : Room) (va_Pc [.ref (z 1), .int p1] (PE D cs (zW cs z A T))) (va_Qi (fun (r9 : Int32) (u : OF) => r9 = (sX2_add T p1).1 ∧ u = (sX2_add T p1).2) (fun u t => va_P D vwC (zW cs z A u) t.heap) (zA z)) 0 0 (zA z) := by
  obtain ⟨v, hv⟩ : ∃ v, sX2_add T p1 = v := ⟨_, rfl⟩
  rw [hv]
  refine met_o (lv := [(0, .ref (z 1)), (1, .int p1)]) (by decide) (Nat.le_of_ble_eq_true rfl) rfl ?_
  intro p e s m args below meth c ls hx hb hr hml hts hown hlocks hin hP hE hl
  have hown : s.vm.findClass RX2 = some m.cls := hown
  have hK := hE.1
  have hP : va_P D vwC (zW cs z A T) s.heap := hP
  have hS : va_S (zA z) s.heap s.heap [] := va_S.rf
  unfold sX2_add at hv
  refine lv_aload_n hx hb dX2_add_0 rfl (lv_at hl 0 rfl) ?_
  refine va_get (D := D) (ci := 2) (v := .int (T.1 0)) (C := RX2) (T := TX2) (N := 7) hx hb hts iw_X2 hown hK hP 1 rfl rfl 1 (by decide) (hts _ w_fl_X2_25) (fun _ h9 => h9) rfl dX2_add_1 ?_
  refine lv_if_lt (tgt := 36) hx hb dX2_add_4 (by decide) (fun c4 => ?_) (fun c4 => ?_)
  · have hv := (if_pos c4).symm.trans hv
    refine lv_aload_n hx hb dX2_add_36 rfl (lv_at hl 0 rfl) ?_
    refine va_get (D := D) (ci := 2) (v := .int (T.1 0)) (C := RX2) (T := TX2) (N := 7) hx hb hts iw_X2 hown hK hP 1 rfl rfl 1 (by decide) (hts _ w_fl_X2_25) (fun _ h9 => h9) rfl dX2_add_37 ?_
    exact W.iret (v := (T.1 0)) hx hb hr (fun t ht hW => ⟨⟨(T.1 0), T, rfl, pair_eq hv, pw ht hP⟩, hS.F ht⟩) hS.2.2 dX2_add_40 (hlocks := hlocks)
  · have hv := (if_neg c4).symm.trans hv
    refine lv_aload_n hx hb dX2_add_7 rfl (lv_at hl 0 rfl) ?_
    refine va_get (D := D) (ci := 2) (v := .int (T.1 0)) (C := RX2) (T := TX2) (N := 7) hx hb hts iw_X2 hown hK hP 1 rfl rfl 1 (by decide) (hts _ w_fl_X2_25) (fun _ h9 => h9) rfl dX2_add_8 ?_
    refine lv_bipush (v := 120) hx hb dX2_add_11 (by decide) ?_
    refine lv_icmp_ge (tgt := 36) hx hb dX2_add_13 (by decide) (fun c13 => ?_) (fun c13 => ?_)
    · have hv := (if_pos c13).symm.trans hv
      refine lv_aload_n hx hb dX2_add_36 rfl (lv_at hl 0 rfl) ?_
      refine va_get (D := D) (ci := 2) (v := .int (T.1 0)) (C := RX2) (T := TX2) (N := 7) hx hb hts iw_X2 hown hK hP 1 rfl rfl 1 (by decide) (hts _ w_fl_X2_25) (fun _ h9 => h9) rfl dX2_add_37 ?_
      exact W.iret (v := (T.1 0)) hx hb hr (fun t ht hW => ⟨⟨(T.1 0), T, rfl, pair_eq hv, pw ht hP⟩, hS.F ht⟩) hS.2.2 dX2_add_40 (hlocks := hlocks)
    · have hv := (if_neg c13).symm.trans hv
      refine lv_aload_n hx hb dX2_add_16 rfl (lv_at hl 0 rfl) ?_
      refine va_get (D := D) (ci := 2) (v := .ref (z 2)) (C := RX2) (T := TX2) (N := 7) hx hb hts iw_X2 hown hK hP 1 rfl rfl 0 (by decide) (hts _ w_fl_X2_9) (fun _ h9 => h9) rfl dX2_add_17 ?_
      refine lv_aload_n hx hb dX2_add_20 rfl (lv_at hl 0 rfl) ?_
      refine va_get (D := D) (ci := 2) (v := .int (T.1 0)) (C := RX2) (T := TX2) (N := 7) hx hb hts iw_X2 hown hK hP 1 rfl rfl 1 (by decide) (hts _ w_fl_X2_25) (fun _ h9 => h9) rfl dX2_add_21 ?_
      refine lv_iload_n hx hb dX2_add_24 rfl (lv_at hl 1 rfl) ?_
      refine va_cast (cA := cs 1) (n := 120) (f := (T.2 2)) hx hb hK hP (z_D cs A T hd) hS 2 1 rfl rfl (vp_a rfl c4 c13) dX2_add_25 (fun H locs hP _ hS => ?_)
      have hP : va_P D vwC (zW cs z A (stA T 2 (upd (T.2 2) (T.1 0).toNatClampNeg (vp_nar .char p1)))) H := hP
      refine lv_aload_n hx hb dX2_add_26 rfl (lv_at hl 0 rfl) ?_
      refine lv_dup hx hb dX2_add_27 rfl ?_
      refine va_get (D := D) (ci := 2) (v := .int (T.1 0)) (C := RX2) (T := TX2) (N := 7) hx hb hts iw_X2 hown hK hP 1 rfl rfl 1 (by decide) (hts _ w_fl_X2_25) (fun _ h9 => h9) rfl dX2_add_28 ?_
      refine lv_iconst (v := 1) hx hb dX2_add_31 (by decide) ?_
      refine lv_iadd hx hb dX2_add_32 ?_
      refine va_put (D := D) (ci := 2) (v := .int ((T.1 0) + 1)) (ty := .int) (C := RX2) (T := TX2) (N := 7) hx hb hts iw_X2 tyX2 tyX2_ok nmX2 hown hK hP (z_D cs A (stA T 2 (upd (T.2 2) (T.1 0).toNatClampNeg (vp_nar .char p1))) hd) hS 1 rfl rfl 1 (by decide) (hts _ w_fl_X2_25) (fun _ h9 => h9) rfl (by decide +kernel) rfl rfl (Nat.le_of_ble_eq_true rfl) dX2_add_33 (fun H locs hP _ hS => ?_)
      have hP : va_P D vwC (zW cs z A (stS (stA T 2 (upd (T.2 2) (T.1 0).toNatClampNeg (vp_nar .char p1))) 0 ((T.1 0) + 1))) H := hP
      refine lv_aload_n hx hb dX2_add_36 rfl (lv_at hl 0 rfl) ?_
      refine va_get (D := D) (ci := 2) (v := .int ((T.1 0) + 1)) (C := RX2) (T := TX2) (N := 7) hx hb hts iw_X2 hown hK hP 1 rfl rfl 1 (by decide) (hts _ w_fl_X2_25) (fun _ h9 => h9) rfl dX2_add_37 ?_
      exact W.iret (v := (T.1 0) + 1) hx hb hr (fun t ht hW => ⟨⟨(T.1 0) + 1, (stS (stA T 2 (upd (T.2 2) (T.1 0).toNatClampNeg (vp_nar .char p1))) 0 ((T.1 0) + 1)), rfl, pair_eq hv, pw ht hP⟩, hS.F ht⟩) hS.2.2 dX2_add_40 (hlocks := hlocks)
theorem hd_X2_empty : yX2_empty.cls ≠ "java/lang/invoke/MethodHandle" ∧ yX2_empty.cls ≠ "java/lang/invoke/VarHandle" ∧ (parseMethodDescriptor yX2_empty.desc).map (fun d => d.parameters.length) = some 0 := by decide +kernel
def sX2_empty (T : OF) : Int32 × OF := ((T.1 0), (stS T 0 0))
set_option maxHeartbeats 4000000 in
set_option maxRecDepth 100000 in
theorem c_X2_empty (l : Launch) (D : va_G) (cs : Nat → ClassId) (z : Nat → Nat) (A : Nat → Nat → Nat) (T : OF) (hd : tD z A) : Met l yX2_empty (wc yX2_empty cX2_empty 2 (some .int)) ({ frames := 0, cells := 0, slots := 0, locals := 0 } : Room) (va_Pc [.ref (z 1)] (PE D cs (zW cs z A T))) (va_Qi (fun (r9 : Int32) (u : OF) => r9 = (sX2_empty T).1 ∧ u = (sX2_empty T).2) (fun u t => va_P D vwC (zW cs z A u) t.heap) (zA z)) 0 0 (zA z) := by
  obtain ⟨v, hv⟩ : ∃ v, sX2_empty T = v := ⟨_, rfl⟩
  rw [hv]
  refine met_o (lv := [(0, .ref (z 1))]) (by decide) (Nat.le_of_ble_eq_true rfl) rfl ?_
  intro p e s m args below meth c ls hx hb hr hml hts hown hlocks hin hP hE hl
  have hown : s.vm.findClass RX2 = some m.cls := hown
  have hK := hE.1
  have hP : va_P D vwC (zW cs z A T) s.heap := hP
  have hS : va_S (zA z) s.heap s.heap [] := va_S.rf
  unfold sX2_empty at hv
  refine lv_aload_n hx hb dX2_empty_0 rfl (lv_at hl 0 rfl) ?_
  refine va_get (D := D) (ci := 2) (v := .int (T.1 0)) (C := RX2) (T := TX2) (N := 7) hx hb hts iw_X2 hown hK hP 1 rfl rfl 1 (by decide) (hts _ w_fl_X2_25) (fun _ h9 => h9) rfl dX2_empty_1 ?_
  refine lv_istore_n (lv' := [(1, .int (T.1 0)), (0, .ref (z 1))]) hx hb dX2_empty_4 rfl hl (by decide) rfl (fun ls hl => ?_)
  refine lv_aload_n hx hb dX2_empty_5 rfl (lv_at hl 1 rfl) ?_
  refine lv_iconst (v := 0) hx hb dX2_empty_6 (by decide) ?_
  refine va_put (D := D) (ci := 2) (v := .int 0) (ty := .int) (C := RX2) (T := TX2) (N := 7) hx hb hts iw_X2 tyX2 tyX2_ok nmX2 hown hK hP (z_D cs A T hd) hS 1 rfl rfl 1 (by decide) (hts _ w_fl_X2_25) (fun _ h9 => h9) rfl (by decide +kernel) rfl rfl (Nat.le_of_ble_eq_true rfl) dX2_empty_7 (fun H locs hP _ hS => ?_)
  have hP : va_P D vwC (zW cs z A (stS T 0 0)) H := hP
  refine lv_iload_n hx hb dX2_empty_10 rfl (lv_at hl 0 rfl) ?_
  exact W.iret (v := (T.1 0)) hx hb hr (fun t ht hW => ⟨⟨(T.1 0), (stS T 0 0), rfl, pair_eq hv, pw ht hP⟩, hS.F ht⟩) hS.2.2 dX2_empty_11 (hlocks := hlocks)
theorem hd_X2_orderCount : yX2_orderCount.cls ≠ "java/lang/invoke/MethodHandle" ∧ yX2_orderCount.cls ≠ "java/lang/invoke/VarHandle" ∧ (parseMethodDescriptor yX2_orderCount.desc).map (fun d => d.parameters.length) = some 0 := by decide +kernel
def sX2_orderCount (T : OF) : Int32 := (T.1 2)
set_option maxHeartbeats 4000000 in
set_option maxRecDepth 100000 in
theorem c_X2_orderCount (l : Launch) (D : va_G) (cs : Nat → ClassId) (z : Nat → Nat) (A : Nat → Nat → Nat) (T : OF) : Met l yX2_orderCount (wc yX2_orderCount cX2_orderCount 1 (some .int)) ({ frames := 0, cells := 0, slots := 0, locals := 0 } : Room) (va_Pc [.ref (z 1)] (PE D cs (zW cs z A T))) (vp_Si (fun r9 => r9 = (sX2_orderCount T))) 0 0 (fun _ => False) := by
  obtain ⟨v, hv⟩ : ∃ v, sX2_orderCount T = v := ⟨_, rfl⟩
  rw [hv]
  refine met_o (lv := [(0, .ref (z 1))]) (by decide) (Nat.le_of_ble_eq_true rfl) rfl ?_
  intro p e s m args below meth c ls hx hb hr hml hts hown hlocks hin hP hE hl
  have hown : s.vm.findClass RX2 = some m.cls := hown
  have hK := hE.1
  have hP : va_P D vwC (zW cs z A T) s.heap := hP
  unfold sX2_orderCount at hv
  refine lv_aload_n hx hb dX2_orderCount_0 rfl (lv_at hl 0 rfl) ?_
  refine va_get (D := D) (ci := 2) (v := .int (T.1 2)) (C := RX2) (T := TX2) (N := 7) hx hb hts iw_X2 hown hK hP 1 rfl rfl 6 (by decide) (hts _ w_fl_X2_29) (fun _ h9 => h9) rfl dX2_orderCount_1 ?_
  exact W.iret (v := (T.1 2)) hx hb hr (fun t ht hW => ⟨(T.1 2), rfl, hv, ht⟩) (fun _ h => nomatch h) dX2_orderCount_4 (hlocks := hlocks)
theorem hd_X2_isOrder : yX2_isOrder.cls ≠ "java/lang/invoke/MethodHandle" ∧ yX2_isOrder.cls ≠ "java/lang/invoke/VarHandle" ∧ (parseMethodDescriptor yX2_isOrder.desc).map (fun d => d.parameters.length) = some 1 := by decide +kernel
def sX2_isOrder (p1 : Int32) : Bool := (if p1 < 0 then false else (if 24 ≤ p1 then false else true))
theorem in_X2_isOrder {p : Int32} (h : sX2_isOrder p = true) : vp_in p 24 := by
  unfold sX2_isOrder at h
  by_cases h1 : p < 0
  · rw [if_pos h1] at h; exact nomatch h
  rw [if_neg h1] at h
  by_cases h3 : 24 ≤ p
  · rw [if_pos h3] at h; exact nomatch h
  exact vp_a rfl h1 h3
theorem le12 {x : Int32} (c : ¬ 12 < x) : ¬ 13 ≤ x := by
  intro q
  have h1 : ¬ (12 : Int32).toInt < x.toInt := fun h => c (i32_lt.mpr h)
  have h2 : (13 : Int32).toInt ≤ x.toInt := i32_le.mp q
  have e1 : (12 : Int32).toInt = 12 := rfl
  have e2 : (13 : Int32).toInt = 13 := rfl
  omega
set_option maxHeartbeats 4000000 in
set_option maxRecDepth 100000 in
theorem c_X2_isOrder (l : Launch) (D : va_G) (cs : Nat → ClassId) (p1 : Int32) : Met l yX2_isOrder (wc yX2_isOrder cX2_isOrder 1 (some .boolean)) ({ frames := 0, cells := 0, slots := 0, locals := 0 } : Room) (va_Pc [.int p1] (PE D cs ([]))) (vp_Si (fun r9 => r9 = b2i (sX2_isOrder p1))) 0 0 (fun _ => False) := by
  obtain ⟨v, hv⟩ : ∃ v, sX2_isOrder p1 = v := ⟨_, rfl⟩
  rw [hv]
  refine met_o (lv := [(0, .int p1)]) (by decide) (Nat.le_of_ble_eq_true rfl) rfl ?_
  intro p e s m args below meth c ls hx hb hr hml hts hown hlocks hin hP hE hl
  have hown : s.vm.findClass RX2 = some m.cls := hown
  have hK := hE.1
  have hP : va_P D vwC ([]) s.heap := hP
  unfold sX2_isOrder at hv
  refine lv_iload_n hx hb dX2_isOrder_0 rfl (lv_at hl 0 rfl) ?_
  refine join_i (J := 15) (ls := ls) (rest := []) (b2i (if p1 < 0 then false else (if 24 ≤ p1 then false else true))) ?_ (fun hJ => ?_)
  · exact W.zret (ty := .boolean) (v := b2i (if p1 < 0 then false else (if 24 ≤ p1 then false else true))) hx hb hr (b2i_nar (if p1 < 0 then false else (if 24 ≤ p1 then false else true))) (fun t ht hW => ⟨b2i (if p1 < 0 then false else (if 24 ≤ p1 then false else true)), rfl, congrArg b2i hv, ht⟩) (fun _ h => nomatch h) dX2_isOrder_15 (hlocks := hlocks)
  · refine lv_if_lt (tgt := 14) hx hb dX2_isOrder_1 (by decide) (fun c1 => ?_) (fun c1 => ?_)
    · refine lv_iconst (v := 0) hx hb dX2_isOrder_14 (by decide) ?_
      exact hJ _ (congrArg b2i ((if_pos c1).trans rfl))
    · refine lv_iload_n hx hb dX2_isOrder_4 rfl (lv_at hl 0 rfl) ?_
      refine lv_bipush (v := 24) hx hb dX2_isOrder_5 (by decide) ?_
      refine lv_icmp_ge (tgt := 14) hx hb dX2_isOrder_7 (by decide) (fun c7 => ?_) (fun c7 => ?_)
      · refine lv_iconst (v := 0) hx hb dX2_isOrder_14 (by decide) ?_
        exact hJ _ (congrArg b2i ((if_neg c1).trans ((if_pos c7).trans rfl)))
      · refine lv_iconst (v := 1) hx hb dX2_isOrder_10 (by decide) ?_
        refine lv_goto (tgt := 15) hx hb dX2_isOrder_11 (by decide) ?_
        exact hJ _ (congrArg b2i ((if_neg c1).trans ((if_neg c7).trans rfl)))
theorem hd_X2_wordOf : yX2_wordOf.cls ≠ "java/lang/invoke/MethodHandle" ∧ yX2_wordOf.cls ≠ "java/lang/invoke/VarHandle" ∧ (parseMethodDescriptor yX2_wordOf.desc).map (fun d => d.parameters.length) = some 1 := by decide +kernel
def sX2_wordOf (T : OF) (p1 : Int32) : Int32 := (if (sX2_isOrder p1) = true then (T.2 3) p1.toNatClampNeg else (-1 : Int32))
set_option maxHeartbeats 4000000 in
set_option maxRecDepth 100000 in
theorem c_X2_wordOf (l : Launch) (D : va_G) (cs : Nat → ClassId) (z : Nat → Nat) (A : Nat → Nat → Nat) (T : OF) (p1 : Int32) : Met l yX2_wordOf (wc yX2_wordOf cX2_wordOf 2 (some .int)) ({ frames := 1, cells := 0, slots := 0, locals := 20 } : Room) (va_Pc [.ref (z 1), .int p1] (PE D cs (zW cs z A T))) (vp_Si (fun r9 => r9 = (sX2_wordOf T p1))) 0 0 (fun _ => False) := by
  obtain ⟨v, hv⟩ : ∃ v, sX2_wordOf T p1 = v := ⟨_, rfl⟩
  rw [hv]
  refine met_o (lv := [(0, .ref (z 1)), (1, .int p1)]) (by decide) (Nat.le_of_ble_eq_true rfl) rfl ?_
  intro p e s m args below meth c ls hx hb hr hml hts hown hlocks hin hP hE hl
  have hown : s.vm.findClass RX2 = some m.cls := hown
  have hK := hE.1
  have hP : va_P D vwC (zW cs z A T) s.heap := hP
  unfold sX2_wordOf at hv
  refine lv_iload_n hx hb dX2_wordOf_0 rfl (lv_at hl 1 rfl) ?_
  refine ro_i (b2i (sX2_isOrder p1)) (run_c (va_runS (As := [.int p1]) (rest := []) ⟨hx, hb, hml, hown, hts⟩ (c_X2_isOrder l D cs p1) (cwS 1 hts (good_S w_ml_X2_32 w_st_X2_isOrder w_in_X2 w_co_X2_isOrder) rfl rfl rfl ⟨rfl, hd_X2_isOrder⟩ ⟨Nat.le_of_ble_eq_true rfl, Nat.le_of_ble_eq_true rfl⟩) (pe_S (p_nil D _) hE) rfl rfl hl.1 rfl (lv_room (Nat.le_of_ble_eq_true rfl)) dX2_wordOf_1 ⟨Nat.zero_le _, Nat.zero_le _⟩)) ?_
  refine join_i (J := 17) (ls := ls) (rest := []) ((if (sX2_isOrder p1) = true then (T.2 3) p1.toNatClampNeg else (-1 : Int32))) ?_ (fun hJ => ?_)
  · exact W.iret (v := (if (sX2_isOrder p1) = true then (T.2 3) p1.toNatClampNeg else (-1 : Int32))) hx hb hr (fun t ht hW => ⟨(if (sX2_isOrder p1) = true then (T.2 3) p1.toNatClampNeg else (-1 : Int32)), rfl, hv, ht⟩) (fun _ h => nomatch h) dX2_wordOf_17 (hlocks := hlocks)
  · refine lv_if_eq (tgt := 16) hx hb dX2_wordOf_4 (by decide) (fun c4 => ?_) (fun c4 => ?_)
    · have c4 := b2i_f c4
      refine lv_iconst (v := (-1)) hx hb dX2_wordOf_16 (by decide) ?_
      exact hJ _ ((if_neg c4).trans rfl)
    · have c4 := b2i_t c4
      refine lv_aload_n hx hb dX2_wordOf_7 rfl (lv_at hl 0 rfl) ?_
      refine va_get (D := D) (ci := 2) (v := .ref (z 3)) (C := RX2) (T := TX2) (N := 7) hx hb hts iw_X2 hown hK hP 1 rfl rfl 3 (by decide) (hts _ w_fl_X2_15) (fun _ h9 => h9) rfl dX2_wordOf_8 ?_
      refine lv_iload_n hx hb dX2_wordOf_11 rfl (lv_at hl 1 rfl) ?_
      refine va_iald (cA := cs 0) (n := 24) (f := (T.2 3)) hx hb hK hP 3 0 rfl rfl (in_X2_isOrder (by assumption)) dX2_wordOf_12 ?_
      refine lv_goto (tgt := 17) hx hb dX2_wordOf_13 (by decide) ?_
      exact hJ _ ((if_pos c4).trans rfl)
theorem hd_X2_firstOf : yX2_firstOf.cls ≠ "java/lang/invoke/MethodHandle" ∧ yX2_firstOf.cls ≠ "java/lang/invoke/VarHandle" ∧ (parseMethodDescriptor yX2_firstOf.desc).map (fun d => d.parameters.length) = some 1 := by decide +kernel
def sX2_firstOf (T : OF) (p1 : Int32) : Int32 := (if (sX2_isOrder p1) = true then (T.2 4) p1.toNatClampNeg else (-1 : Int32))
set_option maxHeartbeats 4000000 in
set_option maxRecDepth 100000 in
theorem c_X2_firstOf (l : Launch) (D : va_G) (cs : Nat → ClassId) (z : Nat → Nat) (A : Nat → Nat → Nat) (T : OF) (p1 : Int32) : Met l yX2_firstOf (wc yX2_firstOf cX2_firstOf 2 (some .int)) ({ frames := 1, cells := 0, slots := 0, locals := 20 } : Room) (va_Pc [.ref (z 1), .int p1] (PE D cs (zW cs z A T))) (vp_Si (fun r9 => r9 = (sX2_firstOf T p1))) 0 0 (fun _ => False) := by
  obtain ⟨v, hv⟩ : ∃ v, sX2_firstOf T p1 = v := ⟨_, rfl⟩
  rw [hv]
  refine met_o (lv := [(0, .ref (z 1)), (1, .int p1)]) (by decide) (Nat.le_of_ble_eq_true rfl) rfl ?_
  intro p e s m args below meth c ls hx hb hr hml hts hown hlocks hin hP hE hl
  have hown : s.vm.findClass RX2 = some m.cls := hown
  have hK := hE.1
  have hP : va_P D vwC (zW cs z A T) s.heap := hP
  unfold sX2_firstOf at hv
  refine lv_iload_n hx hb dX2_firstOf_0 rfl (lv_at hl 1 rfl) ?_
  refine ro_i (b2i (sX2_isOrder p1)) (run_c (va_runS (As := [.int p1]) (rest := []) ⟨hx, hb, hml, hown, hts⟩ (c_X2_isOrder l D cs p1) (cwS 1 hts (good_S w_ml_X2_32 w_st_X2_isOrder w_in_X2 w_co_X2_isOrder) rfl rfl rfl ⟨rfl, hd_X2_isOrder⟩ ⟨Nat.le_of_ble_eq_true rfl, Nat.le_of_ble_eq_true rfl⟩) (pe_S (p_nil D _) hE) rfl rfl hl.1 rfl (lv_room (Nat.le_of_ble_eq_true rfl)) dX2_firstOf_1 ⟨Nat.zero_le _, Nat.zero_le _⟩)) ?_
  refine join_i (J := 17) (ls := ls) (rest := []) ((if (sX2_isOrder p1) = true then (T.2 4) p1.toNatClampNeg else (-1 : Int32))) ?_ (fun hJ => ?_)
  · exact W.iret (v := (if (sX2_isOrder p1) = true then (T.2 4) p1.toNatClampNeg else (-1 : Int32))) hx hb hr (fun t ht hW => ⟨(if (sX2_isOrder p1) = true then (T.2 4) p1.toNatClampNeg else (-1 : Int32)), rfl, hv, ht⟩) (fun _ h => nomatch h) dX2_firstOf_17 (hlocks := hlocks)
  · refine lv_if_eq (tgt := 16) hx hb dX2_firstOf_4 (by decide) (fun c4 => ?_) (fun c4 => ?_)
    · have c4 := b2i_f c4
      refine lv_iconst (v := (-1)) hx hb dX2_firstOf_16 (by decide) ?_
      exact hJ _ ((if_neg c4).trans rfl)
    · have c4 := b2i_t c4
      refine lv_aload_n hx hb dX2_firstOf_7 rfl (lv_at hl 0 rfl) ?_
      refine va_get (D := D) (ci := 2) (v := .ref (z 4)) (C := RX2) (T := TX2) (N := 7) hx hb hts iw_X2 hown hK hP 1 rfl rfl 4 (by decide) (hts _ w_fl_X2_19) (fun _ h9 => h9) rfl dX2_firstOf_8 ?_
      refine lv_iload_n hx hb dX2_firstOf_11 rfl (lv_at hl 1 rfl) ?_
      refine va_iald (cA := cs 0) (n := 24) (f := (T.2 4)) hx hb hK hP 4 0 rfl rfl (in_X2_isOrder (by assumption)) dX2_firstOf_12 ?_
      refine lv_goto (tgt := 17) hx hb dX2_firstOf_13 (by decide) ?_
      exact hJ _ ((if_pos c4).trans rfl)
theorem hd_X2_secondOf : yX2_secondOf.cls ≠ "java/lang/invoke/MethodHandle" ∧ yX2_secondOf.cls ≠ "java/lang/invoke/VarHandle" ∧ (parseMethodDescriptor yX2_secondOf.desc).map (fun d => d.parameters.length) = some 1 := by decide +kernel
def sX2_secondOf (T : OF) (p1 : Int32) : Int32 := (if (sX2_isOrder p1) = true then (T.2 5) p1.toNatClampNeg else (-1 : Int32))
set_option maxHeartbeats 4000000 in
set_option maxRecDepth 100000 in
theorem c_X2_secondOf (l : Launch) (D : va_G) (cs : Nat → ClassId) (z : Nat → Nat) (A : Nat → Nat → Nat) (T : OF) (p1 : Int32) : Met l yX2_secondOf (wc yX2_secondOf cX2_secondOf 2 (some .int)) ({ frames := 1, cells := 0, slots := 0, locals := 20 } : Room) (va_Pc [.ref (z 1), .int p1] (PE D cs (zW cs z A T))) (vp_Si (fun r9 => r9 = (sX2_secondOf T p1))) 0 0 (fun _ => False) := by
  obtain ⟨v, hv⟩ : ∃ v, sX2_secondOf T p1 = v := ⟨_, rfl⟩
  rw [hv]
  refine met_o (lv := [(0, .ref (z 1)), (1, .int p1)]) (by decide) (Nat.le_of_ble_eq_true rfl) rfl ?_
  intro p e s m args below meth c ls hx hb hr hml hts hown hlocks hin hP hE hl
  have hown : s.vm.findClass RX2 = some m.cls := hown
  have hK := hE.1
  have hP : va_P D vwC (zW cs z A T) s.heap := hP
  unfold sX2_secondOf at hv
  refine lv_iload_n hx hb dX2_secondOf_0 rfl (lv_at hl 1 rfl) ?_
  refine ro_i (b2i (sX2_isOrder p1)) (run_c (va_runS (As := [.int p1]) (rest := []) ⟨hx, hb, hml, hown, hts⟩ (c_X2_isOrder l D cs p1) (cwS 1 hts (good_S w_ml_X2_32 w_st_X2_isOrder w_in_X2 w_co_X2_isOrder) rfl rfl rfl ⟨rfl, hd_X2_isOrder⟩ ⟨Nat.le_of_ble_eq_true rfl, Nat.le_of_ble_eq_true rfl⟩) (pe_S (p_nil D _) hE) rfl rfl hl.1 rfl (lv_room (Nat.le_of_ble_eq_true rfl)) dX2_secondOf_1 ⟨Nat.zero_le _, Nat.zero_le _⟩)) ?_
  refine join_i (J := 17) (ls := ls) (rest := []) ((if (sX2_isOrder p1) = true then (T.2 5) p1.toNatClampNeg else (-1 : Int32))) ?_ (fun hJ => ?_)
  · exact W.iret (v := (if (sX2_isOrder p1) = true then (T.2 5) p1.toNatClampNeg else (-1 : Int32))) hx hb hr (fun t ht hW => ⟨(if (sX2_isOrder p1) = true then (T.2 5) p1.toNatClampNeg else (-1 : Int32)), rfl, hv, ht⟩) (fun _ h => nomatch h) dX2_secondOf_17 (hlocks := hlocks)
  · refine lv_if_eq (tgt := 16) hx hb dX2_secondOf_4 (by decide) (fun c4 => ?_) (fun c4 => ?_)
    · have c4 := b2i_f c4
      refine lv_iconst (v := (-1)) hx hb dX2_secondOf_16 (by decide) ?_
      exact hJ _ ((if_neg c4).trans rfl)
    · have c4 := b2i_t c4
      refine lv_aload_n hx hb dX2_secondOf_7 rfl (lv_at hl 0 rfl) ?_
      refine va_get (D := D) (ci := 2) (v := .ref (z 5)) (C := RX2) (T := TX2) (N := 7) hx hb hts iw_X2 hown hK hP 1 rfl rfl 5 (by decide) (hts _ w_fl_X2_22) (fun _ h9 => h9) rfl dX2_secondOf_8 ?_
      refine lv_iload_n hx hb dX2_secondOf_11 rfl (lv_at hl 1 rfl) ?_
      refine va_iald (cA := cs 0) (n := 24) (f := (T.2 5)) hx hb hK hP 5 0 rfl rfl (in_X2_isOrder (by assumption)) dX2_secondOf_12 ?_
      refine lv_goto (tgt := 17) hx hb dX2_secondOf_13 (by decide) ?_
      exact hJ _ ((if_pos c4).trans rfl)
theorem hd_X2_signAt : yX2_signAt.cls ≠ "java/lang/invoke/MethodHandle" ∧ yX2_signAt.cls ≠ "java/lang/invoke/VarHandle" ∧ (parseMethodDescriptor yX2_signAt.desc).map (fun d => d.parameters.length) = some 1 := by decide +kernel
def sX2_signAt (T : OF) (p1 : Int32) : Int32 := (if p1 < 0 then (-1 : Int32) else (if (T.1 0) ≤ p1 then (-1 : Int32) else (if 120 ≤ p1 then (-1 : Int32) else (T.2 2) p1.toNatClampNeg)))
set_option maxHeartbeats 4000000 in
set_option maxRecDepth 100000 in
theorem c_X2_signAt (l : Launch) (D : va_G) (cs : Nat → ClassId) (z : Nat → Nat) (A : Nat → Nat → Nat) (T : OF) (p1 : Int32) : Met l yX2_signAt (wc yX2_signAt cX2_signAt 2 (some .int)) ({ frames := 0, cells := 0, slots := 0, locals := 0 } : Room) (va_Pc [.ref (z 1), .int p1] (PE D cs (zW cs z A T))) (vp_Si (fun r9 => r9 = (sX2_signAt T p1))) 0 0 (fun _ => False) := by
  obtain ⟨v, hv⟩ : ∃ v, sX2_signAt T p1 = v := ⟨_, rfl⟩
  rw [hv]
  refine met_o (lv := [(0, .ref (z 1)), (1, .int p1)]) (by decide) (Nat.le_of_ble_eq_true rfl) rfl ?_
  intro p e s m args below meth c ls hx hb hr hml hts hown hlocks hin hP hE hl
  have hown : s.vm.findClass RX2 = some m.cls := hown
  have hK := hE.1
  have hP : va_P D vwC (zW cs z A T) s.heap := hP
  unfold sX2_signAt at hv
  refine lv_iload_n hx hb dX2_signAt_0 rfl (lv_at hl 1 rfl) ?_
  refine join_i (J := 28) (ls := ls) (rest := []) ((if p1 < 0 then (-1 : Int32) else (if (T.1 0) ≤ p1 then (-1 : Int32) else (if 120 ≤ p1 then (-1 : Int32) else (T.2 2) p1.toNatClampNeg)))) ?_ (fun hJ => ?_)
  · exact W.iret (v := (if p1 < 0 then (-1 : Int32) else (if (T.1 0) ≤ p1 then (-1 : Int32) else (if 120 ≤ p1 then (-1 : Int32) else (T.2 2) p1.toNatClampNeg)))) hx hb hr (fun t ht hW => ⟨(if p1 < 0 then (-1 : Int32) else (if (T.1 0) ≤ p1 then (-1 : Int32) else (if 120 ≤ p1 then (-1 : Int32) else (T.2 2) p1.toNatClampNeg))), rfl, hv, ht⟩) (fun _ h => nomatch h) dX2_signAt_28 (hlocks := hlocks)
  · refine lv_if_lt (tgt := 27) hx hb dX2_signAt_1 (by decide) (fun c1 => ?_) (fun c1 => ?_)
    · refine lv_iconst (v := (-1)) hx hb dX2_signAt_27 (by decide) ?_
      exact hJ _ ((if_pos c1).trans rfl)
    · refine lv_iload_n hx hb dX2_signAt_4 rfl (lv_at hl 1 rfl) ?_
      refine lv_aload_n hx hb dX2_signAt_5 rfl (lv_at hl 0 rfl) ?_
      refine va_get (D := D) (ci := 2) (v := .int (T.1 0)) (C := RX2) (T := TX2) (N := 7) hx hb hts iw_X2 hown hK hP 1 rfl rfl 1 (by decide) (hts _ w_fl_X2_25) (fun _ h9 => h9) rfl dX2_signAt_6 ?_
      refine lv_icmp_ge (tgt := 27) hx hb dX2_signAt_9 (by decide) (fun c9 => ?_) (fun c9 => ?_)
      · refine lv_iconst (v := (-1)) hx hb dX2_signAt_27 (by decide) ?_
        exact hJ _ ((if_neg c1).trans ((if_pos c9).trans rfl))
      · refine lv_iload_n hx hb dX2_signAt_12 rfl (lv_at hl 1 rfl) ?_
        refine lv_bipush (v := 120) hx hb dX2_signAt_13 (by decide) ?_
        refine lv_icmp_ge (tgt := 27) hx hb dX2_signAt_15 (by decide) (fun c15 => ?_) (fun c15 => ?_)
        · refine lv_iconst (v := (-1)) hx hb dX2_signAt_27 (by decide) ?_
          exact hJ _ ((if_neg c1).trans ((if_neg c9).trans ((if_pos c15).trans rfl)))
        · refine lv_aload_n hx hb dX2_signAt_18 rfl (lv_at hl 0 rfl) ?_
          refine va_get (D := D) (ci := 2) (v := .ref (z 2)) (C := RX2) (T := TX2) (N := 7) hx hb hts iw_X2 hown hK hP 1 rfl rfl 0 (by decide) (hts _ w_fl_X2_9) (fun _ h9 => h9) rfl dX2_signAt_19 ?_
          refine lv_iload_n hx hb dX2_signAt_22 rfl (lv_at hl 1 rfl) ?_
          refine va_cald (cA := cs 1) (n := 120) (f := (T.2 2)) hx hb hK hP 2 1 rfl rfl (vp_a rfl c1 c15) dX2_signAt_23 ?_
          refine lv_goto (tgt := 28) hx hb dX2_signAt_24 (by decide) ?_
          exact hJ _ ((if_neg c1).trans ((if_neg c9).trans ((if_neg c15).trans rfl)))
theorem hd_X2_readSign : yX2_readSign.cls ≠ "java/lang/invoke/MethodHandle" ∧ yX2_readSign.cls ≠ "java/lang/invoke/VarHandle" ∧ (parseMethodDescriptor yX2_readSign.desc).map (fun d => d.parameters.length) = some 1 := by decide +kernel
def sX2_readSign (T : OF) (p1 : Int32) : Bool × OF := (if (sX2_signAt T (T.1 1)) = p1 then (true, (stS T 1 ((T.1 1) + 1))) else (false, T))
set_option maxHeartbeats 4000000 in
set_option maxRecDepth 100000 in
theorem c_X2_readSign (l : Launch) (D : va_G) (cs : Nat → ClassId) (z : Nat → Nat) (A : Nat → Nat → Nat) (T : OF) (p1 : Int32) (hd : tD z A) : Met l yX2_readSign (wc yX2_readSign cX2_readSign 2 (some .boolean)) ({ frames := 1, cells := 0, slots := 0, locals := 21 } : Room) (va_Pc [.ref (z 1), .int p1] (PE D cs (zW cs z A T))) (va_Qi (fun (r9 : Int32) (u : OF) => r9 = b2i (sX2_readSign T p1).1 ∧ u = (sX2_readSign T p1).2) (fun u t => va_P D vwC (zW cs z A u) t.heap) (zA z)) 0 0 (zA z) := by
  obtain ⟨v, hv⟩ : ∃ v, sX2_readSign T p1 = v := ⟨_, rfl⟩
  rw [hv]
  refine met_o (lv := [(0, .ref (z 1)), (1, .int p1)]) (by decide) (Nat.le_of_ble_eq_true rfl) rfl ?_
  intro p e s m args below meth c ls hx hb hr hml hts hown hlocks hin hP hE hl
  have hown : s.vm.findClass RX2 = some m.cls := hown
  have hK := hE.1
  have hP : va_P D vwC (zW cs z A T) s.heap := hP
  have hS : va_S (zA z) s.heap s.heap [] := va_S.rf
  unfold sX2_readSign at hv
  refine lv_aload_n hx hb dX2_readSign_0 rfl (lv_at hl 0 rfl) ?_
  refine lv_aload_n hx hb dX2_readSign_1 rfl (lv_at hl 0 rfl) ?_
  refine va_get (D := D) (ci := 2) (v := .int (T.1 1)) (C := RX2) (T := TX2) (N := 7) hx hb hts iw_X2 hown hK hP 1 rfl rfl 2 (by decide) (hts _ w_fl_X2_36) (fun _ h9 => h9) rfl dX2_readSign_2 ?_
  refine ro_i (sX2_signAt T (T.1 1)) (run_c (va_runV (As := [.int (T.1 1)]) (rest := []) ⟨hx, hb, hml, hown, hts⟩ (c_X2_signAt l D cs z A T (T.1 1)) (cwV 1 hts (good_V w_ml_X2_97 w_im_X2_signAt w_se_X2_signAt w_in_X2 w_co_X2_signAt) rfl rfl rfl ⟨rfl, hd_X2_signAt⟩ ⟨Nat.le_of_ble_eq_true rfl, Nat.le_of_ble_eq_true rfl⟩) (pe_W (C := RX2) (T := TX2) (N := 7) (ci := 2) (q0 := 1) hP hE rfl rfl) rfl rfl hl.1 rfl (lv_room (Nat.le_of_ble_eq_true rfl)) dX2_readSign_5 ⟨Nat.zero_le _, Nat.zero_le _⟩)) ?_
  refine lv_iload_n hx hb dX2_readSign_8 rfl (lv_at hl 1 rfl) ?_
  refine lv_icmp_eq (tgt := 14) hx hb dX2_readSign_9 (by decide) (fun c9 => ?_) (fun c9 => ?_)
  · have hv := (if_pos c9).symm.trans hv
    refine lv_aload_n hx hb dX2_readSign_14 rfl (lv_at hl 0 rfl) ?_
    refine lv_dup hx hb dX2_readSign_15 rfl ?_
    refine va_get (D := D) (ci := 2) (v := .int (T.1 1)) (C := RX2) (T := TX2) (N := 7) hx hb hts iw_X2 hown hK hP 1 rfl rfl 2 (by decide) (hts _ w_fl_X2_36) (fun _ h9 => h9) rfl dX2_readSign_16 ?_
    refine lv_iconst (v := 1) hx hb dX2_readSign_19 (by decide) ?_
    refine lv_iadd hx hb dX2_readSign_20 ?_
    refine va_put (D := D) (ci := 2) (v := .int ((T.1 1) + 1)) (ty := .int) (C := RX2) (T := TX2) (N := 7) hx hb hts iw_X2 tyX2 tyX2_ok nmX2 hown hK hP (z_D cs A T hd) hS 1 rfl rfl 2 (by decide) (hts _ w_fl_X2_36) (fun _ h9 => h9) rfl (by decide +kernel) rfl rfl (Nat.le_of_ble_eq_true rfl) dX2_readSign_21 (fun H locs hP _ hS => ?_)
    have hP : va_P D vwC (zW cs z A (stS T 1 ((T.1 1) + 1))) H := hP
    refine lv_iconst (v := 1) hx hb dX2_readSign_24 (by decide) ?_
    exact W.zret (ty := .boolean) (v := 1) hx hb hr (b2i_nar true) (fun t ht hW => ⟨⟨1, (stS T 1 ((T.1 1) + 1)), rfl, pairb_eq hv, pw ht hP⟩, hS.F ht⟩) hS.2.2 dX2_readSign_25 (hlocks := hlocks)
  · have hv := (if_neg c9).symm.trans hv
    refine lv_iconst (v := 0) hx hb dX2_readSign_12 (by decide) ?_
    exact W.zret (ty := .boolean) (v := 0) hx hb hr (b2i_nar false) (fun t ht hW => ⟨⟨0, T, rfl, pairb_eq hv, pw ht hP⟩, hS.F ht⟩) hS.2.2 dX2_readSign_13 (hlocks := hlocks)
theorem hd_X2_readNumber : yX2_readNumber.cls ≠ "java/lang/invoke/MethodHandle" ∧ yX2_readNumber.cls ≠ "java/lang/invoke/VarHandle" ∧ (parseMethodDescriptor yX2_readNumber.desc).map (fun d => d.parameters.length) = some 2 := by decide +kernel
def LX2_readNumber_5 (T : OF) (p1 : Int32) (p2 : Int32) : Nat → Int32 → Int32 → OF → Int32 × OF
  | 0 => fun _ _ _ => (0, T)
  | n + 1 => fun x3 x4 O9 => (if 120 ≤ x4 then (x3, O9) else (if ((sX2_signAt O9 (O9.1 1)) - 48) < 0 then (x3, O9) else (if 9 < ((sX2_signAt O9 (O9.1 1)) - 48) then (x3, O9) else (if x3 = 0 then (x3, O9) else (if (if x3 = (-1) then (sX2_signAt O9 (O9.1 1)) - 48 else (x3 * 10) + ((sX2_signAt O9 (O9.1 1)) - 48)) < p1 then (x3, O9) else (if (if x3 = (-1) then (sX2_signAt O9 (O9.1 1)) - 48 else (x3 * 10) + ((sX2_signAt O9 (O9.1 1)) - 48)) ≤ p2 then (LX2_readNumber_5 T p1 p2 n (if x3 = (-1) then (sX2_signAt O9 (O9.1 1)) - 48 else (x3 * 10) + ((sX2_signAt O9 (O9.1 1)) - 48)) (x4 + 1) (stS O9 1 ((O9.1 1) + 1))) else (x3, O9)))))))
theorem LX2_readNumber_5_eq (T : OF) (p1 : Int32) (p2 : Int32) (n : Nat) (x3 : Int32) (x4 : Int32) (O9 : OF) : LX2_readNumber_5 T p1 p2 (n + 1) x3 x4 O9 = (if 120 ≤ x4 then (x3, O9) else (if ((sX2_signAt O9 (O9.1 1)) - 48) < 0 then (x3, O9) else (if 9 < ((sX2_signAt O9 (O9.1 1)) - 48) then (x3, O9) else (if x3 = 0 then (x3, O9) else (if (if x3 = (-1) then (sX2_signAt O9 (O9.1 1)) - 48 else (x3 * 10) + ((sX2_signAt O9 (O9.1 1)) - 48)) < p1 then (x3, O9) else (if (if x3 = (-1) then (sX2_signAt O9 (O9.1 1)) - 48 else (x3 * 10) + ((sX2_signAt O9 (O9.1 1)) - 48)) ≤ p2 then (LX2_readNumber_5 T p1 p2 n (if x3 = (-1) then (sX2_signAt O9 (O9.1 1)) - 48 else (x3 * 10) + ((sX2_signAt O9 (O9.1 1)) - 48)) (x4 + 1) (stS O9 1 ((O9.1 1) + 1))) else (x3, O9))))))) := rfl
def sX2_readNumber (T : OF) (p1 : Int32) (p2 : Int32) : Int32 × OF := (LX2_readNumber_5 T p1 p2 (upM 120 0 + 1) (-1) 0 T)
set_option maxHeartbeats 4000000 in
set_option maxRecDepth 100000 in
theorem c_X2_readNumber (l : Launch) (D : va_G) (cs : Nat → ClassId) (z : Nat → Nat) (A : Nat → Nat → Nat) (T : OF) (p1 : Int32) (p2 : Int32) (hd : tD z A) : Met l yX2_readNumber (wc yX2_readNumber cX2_readNumber 7 (some .int)) ({ frames := 1, cells := 0, slots := 0, locals := 21 } : Room) (va_Pc [.ref (z 1), .int p1, .int p2] (PE D cs (zW cs z A T))) (va_Qi (fun (r9 : Int32) (u : OF) => r9 = (sX2_readNumber T p1 p2).1 ∧ u = (sX2_readNumber T p1 p2).2) (fun u t => va_P D vwC (zW cs z A u) t.heap) (zA z)) 0 0 (zA z) := by
  obtain ⟨v, hv⟩ : ∃ v, sX2_readNumber T p1 p2 = v := ⟨_, rfl⟩
  rw [hv]
  refine met_o (lv := [(0, .ref (z 1)), (1, .int p1), (2, .int p2)]) (by decide) (Nat.le_of_ble_eq_true rfl) rfl ?_
  intro p e s m args below meth c ls hx hb hr hml hts hown hlocks hin hP hE hl
  have hown : s.vm.findClass RX2 = some m.cls := hown
  have hK := hE.1
  have hP : va_P D vwC (zW cs z A T) s.heap := hP
  have hS : va_S (zA z) s.heap s.heap [] := va_S.rf
  unfold sX2_readNumber at hv
  refine lv_iconst (v := (-1)) hx hb dX2_readNumber_0 (by decide) ?_
  refine lv_istore_n (lv' := [(3, .int (-1)), (0, .ref (z 1)), (1, .int p1), (2, .int p2)]) hx hb dX2_readNumber_1 rfl hl (by decide) rfl (fun ls hl => ?_)
  refine lv_iconst (v := 0) hx hb dX2_readNumber_2 (by decide) ?_
  refine lv_istore (lv' := [(4, .int 0), (3, .int (-1)), (0, .ref (z 1)), (1, .int p1), (2, .int p2)]) hx hb dX2_readNumber_3 hl (by decide) rfl (fun ls hl => ?_)
  have LOOP : ∀ (n : Nat) (x3 : Int32) (x4 : Int32) (O9 : OF), upM 120 x4 < n → LX2_readNumber_5 T p1 p2 n x3 x4 O9 = v → ∀ (H : Heap) (locs : List Loc), va_P D vwC (zW cs z A O9) H → va_S (zA z) s.heap H locs → ∀ ls : Array Slot, lv_has ls 7 [(0, .ref (z 1)), (1, .int p1), (2, .int p2), (3, .int x3), (4, .int x4)] → W p l e ({ frames := 1, cells := 0, slots := 0, locals := 21 } : Room) s m args below meth c H locs 0 0 (MQ below (va_Qi (fun (r9 : Int32) (u : OF) => r9 = v.1 ∧ u = v.2) (fun u t => va_P D vwC (zW cs z A u) t.heap) (zA z)) args s 0 0 (zA z)) (F0 m 5 ls []) := by
    clear hv
    intro n
    induction n with
    | zero => intro x3 x4 O9 hm; exact absurd hm (Nat.not_lt_zero _)
    | succ n ih =>
      intro x3 x4 O9 hm hv H locs hP hS ls hl
      have hv := (LX2_readNumber_5_eq T p1 p2 n x3 x4 O9).symm.trans hv
      refine lv_iload hx hb dX2_readNumber_5 (lv_at hl 4 rfl) ?_
      refine lv_bipush (v := 120) hx hb dX2_readNumber_7 (by decide) ?_
      refine lv_icmp_ge (tgt := 95) hx hb dX2_readNumber_9 (by decide) (fun c9 => ?_) (fun c9 => ?_)
      · have hv := (if_pos c9).symm.trans hv
        refine lv_iload_n hx hb dX2_readNumber_95 rfl (lv_at hl 3 rfl) ?_
        exact W.iret (v := x3) hx hb hr (fun t ht hW => ⟨⟨x3, O9, rfl, pair_eq hv, pw ht hP⟩, hS.F ht⟩) hS.2.2 dX2_readNumber_96 (hlocks := hlocks)
      · have hv := (if_neg c9).symm.trans hv
        refine lv_aload_n hx hb dX2_readNumber_12 rfl (lv_at hl 0 rfl) ?_
        refine lv_aload_n hx hb dX2_readNumber_13 rfl (lv_at hl 0 rfl) ?_
        refine va_get (D := D) (ci := 2) (v := .int (O9.1 1)) (C := RX2) (T := TX2) (N := 7) hx hb hts iw_X2 hown hK hP 1 rfl rfl 2 (by decide) (hts _ w_fl_X2_36) (fun _ h9 => h9) rfl dX2_readNumber_14 ?_
        refine ro_i (sX2_signAt O9 (O9.1 1)) (run_c (va_runV (As := [.int (O9.1 1)]) (rest := []) ⟨hx, hb, hml, hown, hts⟩ (c_X2_signAt l D cs z A O9 (O9.1 1)) (cwV 1 hts (good_V w_ml_X2_97 w_im_X2_signAt w_se_X2_signAt w_in_X2 w_co_X2_signAt) rfl rfl rfl ⟨rfl, hd_X2_signAt⟩ ⟨Nat.le_of_ble_eq_true rfl, Nat.le_of_ble_eq_true rfl⟩) (pe_W (C := RX2) (T := TX2) (N := 7) (ci := 2) (q0 := 1) hP hE rfl rfl) rfl rfl hl.1 rfl (lv_room (Nat.le_of_ble_eq_true rfl)) dX2_readNumber_17 ⟨Nat.zero_le _, Nat.zero_le _⟩)) ?_
        refine lv_bipush (v := 48) hx hb dX2_readNumber_20 (by decide) ?_
        refine lv_isub hx hb dX2_readNumber_22 ?_
        refine lv_istore (lv' := [(5, .int ((sX2_signAt O9 (O9.1 1)) - 48)), (0, .ref (z 1)), (1, .int p1), (2, .int p2), (3, .int x3), (4, .int x4)]) hx hb dX2_readNumber_23 hl (by decide) rfl (fun ls hl => ?_)
        refine lv_iload hx hb dX2_readNumber_25 (lv_at hl 0 rfl) ?_
        refine lv_if_lt (tgt := 41) hx hb dX2_readNumber_27 (by decide) (fun c27 => ?_) (fun c27 => ?_)
        · have hv := (if_pos c27).symm.trans hv
          refine lv_iload_n hx hb dX2_readNumber_41 rfl (lv_at hl 4 rfl) ?_
          exact W.iret (v := x3) hx hb hr (fun t ht hW => ⟨⟨x3, O9, rfl, pair_eq hv, pw ht hP⟩, hS.F ht⟩) hS.2.2 dX2_readNumber_42 (hlocks := hlocks)
        · have hv := (if_neg c27).symm.trans hv
          refine lv_iload hx hb dX2_readNumber_30 (lv_at hl 0 rfl) ?_
          refine lv_bipush (v := 9) hx hb dX2_readNumber_32 (by decide) ?_
          refine lv_icmp_gt (tgt := 41) hx hb dX2_readNumber_34 (by decide) (fun c34 => ?_) (fun c34 => ?_)
          · have hv := (if_pos c34).symm.trans hv
            refine lv_iload_n hx hb dX2_readNumber_41 rfl (lv_at hl 4 rfl) ?_
            exact W.iret (v := x3) hx hb hr (fun t ht hW => ⟨⟨x3, O9, rfl, pair_eq hv, pw ht hP⟩, hS.F ht⟩) hS.2.2 dX2_readNumber_42 (hlocks := hlocks)
          · have hv := (if_neg c34).symm.trans hv
            refine lv_iload_n hx hb dX2_readNumber_37 rfl (lv_at hl 4 rfl) ?_
            refine lv_if_ne (tgt := 43) hx hb dX2_readNumber_38 (by decide) (fun c38 => ?_) (fun c38 => ?_)
            · have hv := (if_neg c38).symm.trans hv
              refine lv_iload_n hx hb dX2_readNumber_43 rfl (lv_at hl 4 rfl) ?_
              refine lv_iconst (v := (-1)) hx hb dX2_readNumber_44 (by decide) ?_
              refine join_i (J := 60) (ls := ls) (rest := []) ((if x3 = (-1) then (sX2_signAt O9 (O9.1 1)) - 48 else (x3 * 10) + ((sX2_signAt O9 (O9.1 1)) - 48))) ?_ (fun hJ => ?_)
              · refine lv_istore (lv' := [(6, .int (if x3 = (-1) then (sX2_signAt O9 (O9.1 1)) - 48 else (x3 * 10) + ((sX2_signAt O9 (O9.1 1)) - 48))), (5, .int ((sX2_signAt O9 (O9.1 1)) - 48)), (0, .ref (z 1)), (1, .int p1), (2, .int p2), (3, .int x3), (4, .int x4)]) hx hb dX2_readNumber_60 hl (by decide) rfl (fun ls hl => ?_)
                refine lv_iload hx hb dX2_readNumber_62 (lv_at hl 0 rfl) ?_
                refine lv_iload_n hx hb dX2_readNumber_64 rfl (lv_at hl 3 rfl) ?_
                refine lv_icmp_lt (tgt := 74) hx hb dX2_readNumber_65 (by decide) (fun c65 => ?_) (fun c65 => ?_)
                · have hv := (if_pos c65).symm.trans hv
                  refine lv_iload_n hx hb dX2_readNumber_74 rfl (lv_at hl 5 rfl) ?_
                  exact W.iret (v := x3) hx hb hr (fun t ht hW => ⟨⟨x3, O9, rfl, pair_eq hv, pw ht hP⟩, hS.F ht⟩) hS.2.2 dX2_readNumber_75 (hlocks := hlocks)
                · have hv := (if_neg c65).symm.trans hv
                  refine lv_iload hx hb dX2_readNumber_68 (lv_at hl 0 rfl) ?_
                  refine lv_iload_n hx hb dX2_readNumber_70 rfl (lv_at hl 4 rfl) ?_
                  refine lv_icmp_le (tgt := 76) hx hb dX2_readNumber_71 (by decide) (fun c71 => ?_) (fun c71 => ?_)
                  · have hv := (if_pos c71).symm.trans hv
                    refine lv_iload hx hb dX2_readNumber_76 (lv_at hl 0 rfl) ?_
                    refine lv_istore_n (lv' := [(3, .int (if x3 = (-1) then (sX2_signAt O9 (O9.1 1)) - 48 else (x3 * 10) + ((sX2_signAt O9 (O9.1 1)) - 48))), (6, .int (if x3 = (-1) then (sX2_signAt O9 (O9.1 1)) - 48 else (x3 * 10) + ((sX2_signAt O9 (O9.1 1)) - 48))), (5, .int ((sX2_signAt O9 (O9.1 1)) - 48)), (0, .ref (z 1)), (1, .int p1), (2, .int p2), (4, .int x4)]) hx hb dX2_readNumber_78 rfl hl (by decide) rfl (fun ls hl => ?_)
                    refine lv_aload_n hx hb dX2_readNumber_79 rfl (lv_at hl 3 rfl) ?_
                    refine lv_dup hx hb dX2_readNumber_80 rfl ?_
                    refine va_get (D := D) (ci := 2) (v := .int (O9.1 1)) (C := RX2) (T := TX2) (N := 7) hx hb hts iw_X2 hown hK hP 1 rfl rfl 2 (by decide) (hts _ w_fl_X2_36) (fun _ h9 => h9) rfl dX2_readNumber_81 ?_
                    refine lv_iconst (v := 1) hx hb dX2_readNumber_84 (by decide) ?_
                    refine lv_iadd hx hb dX2_readNumber_85 ?_
                    refine va_put (D := D) (ci := 2) (v := .int ((O9.1 1) + 1)) (ty := .int) (C := RX2) (T := TX2) (N := 7) hx hb hts iw_X2 tyX2 tyX2_ok nmX2 hown hK hP (z_D cs A O9 hd) hS 1 rfl rfl 2 (by decide) (hts _ w_fl_X2_36) (fun _ h9 => h9) rfl (by decide +kernel) rfl rfl (Nat.le_of_ble_eq_true rfl) dX2_readNumber_86 (fun H locs hP _ hS => ?_)
                    have hP : va_P D vwC (zW cs z A (stS O9 1 ((O9.1 1) + 1))) H := hP
                    refine lv_iinc (v := x4 + 1) (lv' := [(4, .int (x4 + 1)), (3, .int (if x3 = (-1) then (sX2_signAt O9 (O9.1 1)) - 48 else (x3 * 10) + ((sX2_signAt O9 (O9.1 1)) - 48))), (6, .int (if x3 = (-1) then (sX2_signAt O9 (O9.1 1)) - 48 else (x3 * 10) + ((sX2_signAt O9 (O9.1 1)) - 48))), (5, .int ((sX2_signAt O9 (O9.1 1)) - 48)), (0, .ref (z 1)), (1, .int p1), (2, .int p2)]) hx hb dX2_readNumber_89 hl (k := 6) rfl rfl (by decide) rfl (fun ls hl => ?_)
                    refine lv_goto (tgt := 5) hx hb dX2_readNumber_92 (by decide) ?_
                    exact ih (if x3 = (-1) then (sX2_signAt O9 (O9.1 1)) - 48 else (x3 * 10) + ((sX2_signAt O9 (O9.1 1)) - 48)) (x4 + 1) (stS O9 1 ((O9.1 1) + 1)) (upM_s c9 hm) hv _ _ hP hS ls (lv_sub hl [4, 5, 6, 1, 0] rfl)
                  · have hv := (if_neg c71).symm.trans hv
                    refine lv_iload_n hx hb dX2_readNumber_74 rfl (lv_at hl 5 rfl) ?_
                    exact W.iret (v := x3) hx hb hr (fun t ht hW => ⟨⟨x3, O9, rfl, pair_eq hv, pw ht hP⟩, hS.F ht⟩) hS.2.2 dX2_readNumber_75 (hlocks := hlocks)
              · refine lv_icmp_ne (tgt := 53) hx hb dX2_readNumber_45 (by decide) (fun c45 => ?_) (fun c45 => ?_)
                · refine lv_iload_n hx hb dX2_readNumber_53 rfl (lv_at hl 4 rfl) ?_
                  refine lv_bipush (v := 10) hx hb dX2_readNumber_54 (by decide) ?_
                  refine lv_imul hx hb dX2_readNumber_56 ?_
                  refine lv_iload hx hb dX2_readNumber_57 (lv_at hl 0 rfl) ?_
                  refine lv_iadd hx hb dX2_readNumber_59 ?_
                  exact hJ _ ((if_neg c45).trans rfl)
                · refine lv_iload hx hb dX2_readNumber_48 (lv_at hl 0 rfl) ?_
                  refine lv_goto (tgt := 60) hx hb dX2_readNumber_50 (by decide) ?_
                  exact hJ _ ((if_pos c45).trans rfl)
            · have hv := (if_pos c38).symm.trans hv
              refine lv_iload_n hx hb dX2_readNumber_41 rfl (lv_at hl 4 rfl) ?_
              exact W.iret (v := x3) hx hb hr (fun t ht hW => ⟨⟨x3, O9, rfl, pair_eq hv, pw ht hP⟩, hS.F ht⟩) hS.2.2 dX2_readNumber_42 (hlocks := hlocks)
  exact LOOP _ (-1) 0 T (Nat.lt_succ_self _) hv _ _ hP hS ls (lv_sub hl [2, 3, 4, 1, 0] rfl)
theorem hd_X2_readFields : yX2_readFields.cls ≠ "java/lang/invoke/MethodHandle" ∧ yX2_readFields.cls ≠ "java/lang/invoke/VarHandle" ∧ (parseMethodDescriptor yX2_readFields.desc).map (fun d => d.parameters.length) = some 1 := by decide +kernel
def LX2_readFields_7 (T : OF) (p1 : Int32) : Nat → Int32 → Int32 → Int32 → OF → Int32 × OF
  | 0 => fun _ _ _ _ => (0, T)
  | n + 1 => fun x2 x3 x4 O9 => (if 12 < x4 then ((-1), O9) else (if x3 < ((sX2_readNumber O9 0 p1).1) then (if ((sX2_readSign ((sX2_readNumber O9 0 p1).2) 44).1) = true then (LX2_readFields_7 T p1 n (x2 ||| (1 <<< (((sX2_readNumber O9 0 p1).1) &&& 31))) ((sX2_readNumber O9 0 p1).1) (x4 + 1) ((sX2_readSign ((sX2_readNumber O9 0 p1).2) 44).2)) else (x2 ||| (1 <<< (((sX2_readNumber O9 0 p1).1) &&& 31)), ((sX2_readSign ((sX2_readNumber O9 0 p1).2) 44).2))) else ((-1), ((sX2_readNumber O9 0 p1).2))))
theorem LX2_readFields_7_eq (T : OF) (p1 : Int32) (n : Nat) (x2 : Int32) (x3 : Int32) (x4 : Int32) (O9 : OF) : LX2_readFields_7 T p1 (n + 1) x2 x3 x4 O9 = (if 12 < x4 then ((-1), O9) else (if x3 < ((sX2_readNumber O9 0 p1).1) then (if ((sX2_readSign ((sX2_readNumber O9 0 p1).2) 44).1) = true then (LX2_readFields_7 T p1 n (x2 ||| (1 <<< (((sX2_readNumber O9 0 p1).1) &&& 31))) ((sX2_readNumber O9 0 p1).1) (x4 + 1) ((sX2_readSign ((sX2_readNumber O9 0 p1).2) 44).2)) else (x2 ||| (1 <<< (((sX2_readNumber O9 0 p1).1) &&& 31)), ((sX2_readSign ((sX2_readNumber O9 0 p1).2) 44).2))) else ((-1), ((sX2_readNumber O9 0 p1).2)))) := rfl
def sX2_readFields (T : OF) (p1 : Int32) : Int32 × OF := (LX2_readFields_7 T p1 (upM 13 0 + 1) 0 (-1) 0 T)
set_option maxHeartbeats 4000000 in
set_option maxRecDepth 100000 in
theorem c_X2_readFields (l : Launch) (D : va_G) (cs : Nat → ClassId) (z : Nat → Nat) (A : Nat → Nat → Nat) (T : OF) (p1 : Int32) (hd : tD z A) : Met l yX2_readFields (wc yX2_readFields cX2_readFields 6 (some .int)) ({ frames := 2, cells := 0, slots := 0, locals := 47 } : Room) (va_Pc [.ref (z 1), .int p1] (PE D cs (zW cs z A T))) (va_Qi (fun (r9 : Int32) (u : OF) => r9 = (sX2_readFields T p1).1 ∧ u = (sX2_readFields T p1).2) (fun u t => va_P D vwC (zW cs z A u) t.heap) (zA z)) 0 0 (zA z) := by
  obtain ⟨v, hv⟩ : ∃ v, sX2_readFields T p1 = v := ⟨_, rfl⟩
  rw [hv]
  refine met_o (lv := [(0, .ref (z 1)), (1, .int p1)]) (by decide) (Nat.le_of_ble_eq_true rfl) rfl ?_
  intro p e s m args below meth c ls hx hb hr hml hts hown hlocks hin hP hE hl
  have hown : s.vm.findClass RX2 = some m.cls := hown
  have hK := hE.1
  have hP : va_P D vwC (zW cs z A T) s.heap := hP
  have hS : va_S (zA z) s.heap s.heap [] := va_S.rf
  unfold sX2_readFields at hv
  refine lv_iconst (v := 0) hx hb dX2_readFields_0 (by decide) ?_
  refine lv_istore_n (lv' := [(2, .int 0), (0, .ref (z 1)), (1, .int p1)]) hx hb dX2_readFields_1 rfl hl (by decide) rfl (fun ls hl => ?_)
  refine lv_iconst (v := (-1)) hx hb dX2_readFields_2 (by decide) ?_
  refine lv_istore_n (lv' := [(3, .int (-1)), (2, .int 0), (0, .ref (z 1)), (1, .int p1)]) hx hb dX2_readFields_3 rfl hl (by decide) rfl (fun ls hl => ?_)
  refine lv_iconst (v := 0) hx hb dX2_readFields_4 (by decide) ?_
  refine lv_istore (lv' := [(4, .int 0), (3, .int (-1)), (2, .int 0), (0, .ref (z 1)), (1, .int p1)]) hx hb dX2_readFields_5 hl (by decide) rfl (fun ls hl => ?_)
  have LOOP : ∀ (n : Nat) (x2 : Int32) (x3 : Int32) (x4 : Int32) (O9 : OF), upM 13 x4 < n → LX2_readFields_7 T p1 n x2 x3 x4 O9 = v → ∀ (H : Heap) (locs : List Loc), va_P D vwC (zW cs z A O9) H → va_S (zA z) s.heap H locs → ∀ ls : Array Slot, lv_has ls 6 [(0, .ref (z 1)), (1, .int p1), (2, .int x2), (3, .int x3), (4, .int x4)] → W p l e ({ frames := 2, cells := 0, slots := 0, locals := 47 } : Room) s m args below meth c H locs 0 0 (MQ below (va_Qi (fun (r9 : Int32) (u : OF) => r9 = v.1 ∧ u = v.2) (fun u t => va_P D vwC (zW cs z A u) t.heap) (zA z)) args s 0 0 (zA z)) (F0 m 7 ls []) := by
    clear hv
    intro n
    induction n with
    | zero => intro x2 x3 x4 O9 hm; exact absurd hm (Nat.not_lt_zero _)
    | succ n ih =>
      intro x2 x3 x4 O9 hm hv H locs hP hS ls hl
      have hv := (LX2_readFields_7_eq T p1 n x2 x3 x4 O9).symm.trans hv
      refine lv_iload hx hb dX2_readFields_7 (lv_at hl 4 rfl) ?_
      refine lv_bipush (v := 12) hx hb dX2_readFields_9 (by decide) ?_
      refine lv_icmp_gt (tgt := 57) hx hb dX2_readFields_11 (by decide) (fun c11 => ?_) (fun c11 => ?_)
      · have hv := (if_pos c11).symm.trans hv
        refine lv_iconst (v := (-1)) hx hb dX2_readFields_57 (by decide) ?_
        exact W.iret (v := (-1)) hx hb hr (fun t ht hW => ⟨⟨(-1), O9, rfl, pair_eq hv, pw ht hP⟩, hS.F ht⟩) hS.2.2 dX2_readFields_58 (hlocks := hlocks)
      · have hv := (if_neg c11).symm.trans hv
        refine lv_aload_n hx hb dX2_readFields_14 rfl (lv_at hl 0 rfl) ?_
        refine lv_iconst (v := 0) hx hb dX2_readFields_15 (by decide) ?_
        refine lv_iload_n hx hb dX2_readFields_16 rfl (lv_at hl 1 rfl) ?_
        refine w_i (sX2_readNumber O9 0 p1) (va_runV (As := [.int 0, .int p1]) (rest := []) ⟨hx, hb, hml, hown, hts⟩ (c_X2_readNumber l D cs z A O9 0 p1 hd) (cwV 2 hts (good_V w_ml_X2_51 w_im_X2_readNumber w_se_X2_readNumber w_in_X2 w_co_X2_readNumber) rfl rfl rfl ⟨rfl, hd_X2_readNumber⟩ ⟨Nat.le_of_ble_eq_true rfl, Nat.le_of_ble_eq_true rfl⟩) (pe_W (C := RX2) (T := TX2) (N := 7) (ci := 2) (q0 := 1) hP hE rfl rfl) rfl rfl hl.1 rfl (lv_room (Nat.le_of_ble_eq_true rfl)) dX2_readFields_17 ⟨Nat.zero_le _, Nat.zero_le _⟩) hS (fun _ _ h => h) (fun _ h => h) (fun t locs hB hz hk hS => ?_)
        have hP : va_P D vwC (zW cs z A ((sX2_readNumber O9 0 p1).2)) t.heap := hB
        refine lv_istore (lv' := [(5, .int ((sX2_readNumber O9 0 p1).1)), (0, .ref (z 1)), (1, .int p1), (2, .int x2), (3, .int x3), (4, .int x4)]) hx hb dX2_readFields_20 hl (by decide) rfl (fun ls hl => ?_)
        refine lv_iload hx hb dX2_readFields_22 (lv_at hl 0 rfl) ?_
        refine lv_iload_n hx hb dX2_readFields_24 rfl (lv_at hl 4 rfl) ?_
        refine lv_icmp_gt (tgt := 30) hx hb dX2_readFields_25 (by decide) (fun c25 => ?_) (fun c25 => ?_)
        · have hv := (if_pos c25).symm.trans hv
          refine lv_iload_n hx hb dX2_readFields_30 rfl (lv_at hl 3 rfl) ?_
          refine lv_iconst (v := 1) hx hb dX2_readFields_31 (by decide) ?_
          refine lv_iload hx hb dX2_readFields_32 (lv_at hl 0 rfl) ?_
          refine lv_ishl hx hb dX2_readFields_34 ?_
          refine lv_ior hx hb dX2_readFields_35 ?_
          refine lv_istore_n (lv' := [(2, .int (x2 ||| (1 <<< (((sX2_readNumber O9 0 p1).1) &&& 31)))), (5, .int ((sX2_readNumber O9 0 p1).1)), (0, .ref (z 1)), (1, .int p1), (3, .int x3), (4, .int x4)]) hx hb dX2_readFields_36 rfl hl (by decide) rfl (fun ls hl => ?_)
          refine lv_iload hx hb dX2_readFields_37 (lv_at hl 1 rfl) ?_
          refine lv_istore_n (lv' := [(3, .int ((sX2_readNumber O9 0 p1).1)), (2, .int (x2 ||| (1 <<< (((sX2_readNumber O9 0 p1).1) &&& 31)))), (5, .int ((sX2_readNumber O9 0 p1).1)), (0, .ref (z 1)), (1, .int p1), (4, .int x4)]) hx hb dX2_readFields_39 rfl hl (by decide) rfl (fun ls hl => ?_)
          refine lv_aload_n hx hb dX2_readFields_40 rfl (lv_at hl 3 rfl) ?_
          refine lv_bipush (v := 44) hx hb dX2_readFields_41 (by decide) ?_
          refine w_b (sX2_readSign ((sX2_readNumber O9 0 p1).2) 44) (va_runV (As := [.int 44]) (rest := []) ⟨hx, hb, hml, hown, hts⟩ (c_X2_readSign l D cs z A ((sX2_readNumber O9 0 p1).2) 44 hd) (cwV 1 hts (good_V w_ml_X2_43 w_im_X2_readSign w_se_X2_readSign w_in_X2 w_co_X2_readSign) rfl rfl rfl ⟨rfl, hd_X2_readSign⟩ ⟨Nat.le_of_ble_eq_true rfl, Nat.le_of_ble_eq_true rfl⟩) (pe_W (C := RX2) (T := TX2) (N := 7) (ci := 2) (q0 := 1) hP hE rfl rfl) rfl rfl hl.1 rfl (lv_room (Nat.le_of_ble_eq_true rfl)) dX2_readFields_43 ⟨Nat.zero_le _, Nat.zero_le _⟩) hS (fun _ _ h => h) (fun _ h => h) (fun t locs hB hz hk hS => ?_)
          have hP : va_P D vwC (zW cs z A ((sX2_readSign ((sX2_readNumber O9 0 p1).2) 44).2)) t.heap := hB
          refine lv_if_ne (tgt := 51) hx hb dX2_readFields_46 (by decide) (fun c46 => ?_) (fun c46 => ?_)
          · have c46 := b2i_t c46
            have hv := (if_pos c46).symm.trans hv
            refine lv_iinc (v := x4 + 1) (lv' := [(4, .int (x4 + 1)), (3, .int ((sX2_readNumber O9 0 p1).1)), (2, .int (x2 ||| (1 <<< (((sX2_readNumber O9 0 p1).1) &&& 31)))), (5, .int ((sX2_readNumber O9 0 p1).1)), (0, .ref (z 1)), (1, .int p1)]) hx hb dX2_readFields_51 hl (k := 5) rfl rfl (by decide) rfl (fun ls hl => ?_)
            refine lv_goto (tgt := 7) hx hb dX2_readFields_54 (by decide) ?_
            exact ih (x2 ||| (1 <<< (((sX2_readNumber O9 0 p1).1) &&& 31))) ((sX2_readNumber O9 0 p1).1) (x4 + 1) ((sX2_readSign ((sX2_readNumber O9 0 p1).2) 44).2) (upM_s (le12 c11) hm) hv _ _ hP hS ls (lv_sub hl [4, 5, 2, 1, 0] rfl)
          · have c46 := b2i_f c46
            have hv := (if_neg c46).symm.trans hv
            refine lv_iload_n hx hb dX2_readFields_49 rfl (lv_at hl 1 rfl) ?_
            exact W.iret (v := x2 ||| (1 <<< (((sX2_readNumber O9 0 p1).1) &&& 31))) hx hb hr (fun t ht hW => ⟨⟨x2 ||| (1 <<< (((sX2_readNumber O9 0 p1).1) &&& 31)), ((sX2_readSign ((sX2_readNumber O9 0 p1).2) 44).2), rfl, pair_eq hv, pw ht hP⟩, hS.F ht⟩) hS.2.2 dX2_readFields_50 (hlocks := hlocks)
        · have hv := (if_neg c25).symm.trans hv
          refine lv_iconst (v := (-1)) hx hb dX2_readFields_28 (by decide) ?_
          exact W.iret (v := (-1)) hx hb hr (fun t ht hW => ⟨⟨(-1), ((sX2_readNumber O9 0 p1).2), rfl, pair_eq hv, pw ht hP⟩, hS.F ht⟩) hS.2.2 dX2_readFields_29 (hlocks := hlocks)
  exact LOOP _ 0 (-1) 0 T (Nat.lt_succ_self _) hv _ _ hP hS ls (lv_sub hl [3, 4, 2, 1, 0] rfl)
theorem hd_X2_keepOrder : yX2_keepOrder.cls ≠ "java/lang/invoke/MethodHandle" ∧ yX2_keepOrder.cls ≠ "java/lang/invoke/VarHandle" ∧ (parseMethodDescriptor yX2_keepOrder.desc).map (fun d => d.parameters.length) = some 3 := by decide +kernel
def sX2_keepOrder (T : OF) (p1 : Int32) (p2 : Int32) (p3 : Int32) : Bool × OF := (if (sX2_isOrder (T.1 2)) = true then (true, (stS (stA (stA (stA T 3 (upd (T.2 3) (T.1 2).toNatClampNeg p1)) 4 (upd (T.2 4) (T.1 2).toNatClampNeg p2)) 5 (upd (T.2 5) (T.1 2).toNatClampNeg p3)) 2 ((T.1 2) + 1))) else (false, T))
set_option maxHeartbeats 4000000 in
set_option maxRecDepth 100000 in
theorem c_X2_keepOrder (l : Launch) (D : va_G) (cs : Nat → ClassId) (z : Nat → Nat) (A : Nat → Nat → Nat) (T : OF) (p1 : Int32) (p2 : Int32) (p3 : Int32) (hd : tD z A) : Met l yX2_keepOrder (wc yX2_keepOrder cX2_keepOrder 4 (some .boolean)) ({ frames := 1, cells := 0, slots := 0, locals := 20 } : Room) (va_Pc [.ref (z 1), .int p1, .int p2, .int p3] (PE D cs (zW cs z A T))) (va_Qi (fun (r9 : Int32) (u : OF) => r9 = b2i (sX2_keepOrder T p1 p2 p3).1 ∧ u = (sX2_keepOrder T p1 p2 p3).2) (fun u t => va_P D vwC (zW cs z A u) t.heap) (zA z)) 0 0 (zA z) := by
  obtain ⟨v, hv⟩ : ∃ v, sX2_keepOrder T p1 p2 p3 = v := ⟨_, rfl⟩
  rw [hv]
  refine met_o (lv := [(0, .ref (z 1)), (1, .int p1), (2, .int p2), (3, .int p3)]) (by decide) (Nat.le_of_ble_eq_true rfl) rfl ?_
  intro p e s m args below meth c ls hx hb hr hml hts hown hlocks hin hP hE hl
  have hown : s.vm.findClass RX2 = some m.cls := hown
  have hK := hE.1
  have hP : va_P D vwC (zW cs z A T) s.heap := hP
  have hS : va_S (zA z) s.heap s.heap [] := va_S.rf
  unfold sX2_keepOrder at hv
  refine lv_aload_n hx hb dX2_keepOrder_0 rfl (lv_at hl 0 rfl) ?_
  refine va_get (D := D) (ci := 2) (v := .int (T.1 2)) (C := RX2) (T := TX2) (N := 7) hx hb hts iw_X2 hown hK hP 1 rfl rfl 6 (by decide) (hts _ w_fl_X2_29) (fun _ h9 => h9) rfl dX2_keepOrder_1 ?_
  refine ro_i (b2i (sX2_isOrder (T.1 2))) (run_c (va_runS (As := [.int (T.1 2)]) (rest := []) ⟨hx, hb, hml, hown, hts⟩ (c_X2_isOrder l D cs (T.1 2)) (cwS 1 hts (good_S w_ml_X2_32 w_st_X2_isOrder w_in_X2 w_co_X2_isOrder) rfl rfl rfl ⟨rfl, hd_X2_isOrder⟩ ⟨Nat.le_of_ble_eq_true rfl, Nat.le_of_ble_eq_true rfl⟩) (pe_S (p_nil D _) hE) rfl rfl hl.1 rfl (lv_room (Nat.le_of_ble_eq_true rfl)) dX2_keepOrder_4 ⟨Nat.zero_le _, Nat.zero_le _⟩)) ?_
  refine lv_if_ne (tgt := 12) hx hb dX2_keepOrder_7 (by decide) (fun c7 => ?_) (fun c7 => ?_)
  · have c7 := b2i_t c7
    have hv := (if_pos c7).symm.trans hv
    refine lv_aload_n hx hb dX2_keepOrder_12 rfl (lv_at hl 0 rfl) ?_
    refine va_get (D := D) (ci := 2) (v := .ref (z 3)) (C := RX2) (T := TX2) (N := 7) hx hb hts iw_X2 hown hK hP 1 rfl rfl 3 (by decide) (hts _ w_fl_X2_15) (fun _ h9 => h9) rfl dX2_keepOrder_13 ?_
    refine lv_aload_n hx hb dX2_keepOrder_16 rfl (lv_at hl 0 rfl) ?_
    refine va_get (D := D) (ci := 2) (v := .int (T.1 2)) (C := RX2) (T := TX2) (N := 7) hx hb hts iw_X2 hown hK hP 1 rfl rfl 6 (by decide) (hts _ w_fl_X2_29) (fun _ h9 => h9) rfl dX2_keepOrder_17 ?_
    refine lv_iload_n hx hb dX2_keepOrder_20 rfl (lv_at hl 1 rfl) ?_
    refine va_iast (cA := cs 0) (n := 24) (f := (T.2 3)) hx hb hK hP (z_D cs A T hd) hS 3 0 rfl rfl (in_X2_isOrder (by assumption)) dX2_keepOrder_21 (fun H locs hP _ hS => ?_)
    have hP : va_P D vwC (zW cs z A (stA T 3 (upd (T.2 3) (T.1 2).toNatClampNeg p1))) H := hP
    refine lv_aload_n hx hb dX2_keepOrder_22 rfl (lv_at hl 0 rfl) ?_
    refine va_get (D := D) (ci := 2) (v := .ref (z 4)) (C := RX2) (T := TX2) (N := 7) hx hb hts iw_X2 hown hK hP 1 rfl rfl 4 (by decide) (hts _ w_fl_X2_19) (fun _ h9 => h9) rfl dX2_keepOrder_23 ?_
    refine lv_aload_n hx hb dX2_keepOrder_26 rfl (lv_at hl 0 rfl) ?_
    refine va_get (D := D) (ci := 2) (v := .int (T.1 2)) (C := RX2) (T := TX2) (N := 7) hx hb hts iw_X2 hown hK hP 1 rfl rfl 6 (by decide) (hts _ w_fl_X2_29) (fun _ h9 => h9) rfl dX2_keepOrder_27 ?_
    refine lv_iload_n hx hb dX2_keepOrder_30 rfl (lv_at hl 2 rfl) ?_
    refine va_iast (cA := cs 0) (n := 24) (f := (T.2 4)) hx hb hK hP (z_D cs A (stA T 3 (upd (T.2 3) (T.1 2).toNatClampNeg p1)) hd) hS 4 0 rfl rfl (in_X2_isOrder (by assumption)) dX2_keepOrder_31 (fun H locs hP _ hS => ?_)
    have hP : va_P D vwC (zW cs z A (stA (stA T 3 (upd (T.2 3) (T.1 2).toNatClampNeg p1)) 4 (upd (T.2 4) (T.1 2).toNatClampNeg p2))) H := hP
    refine lv_aload_n hx hb dX2_keepOrder_32 rfl (lv_at hl 0 rfl) ?_
    refine va_get (D := D) (ci := 2) (v := .ref (z 5)) (C := RX2) (T := TX2) (N := 7) hx hb hts iw_X2 hown hK hP 1 rfl rfl 5 (by decide) (hts _ w_fl_X2_22) (fun _ h9 => h9) rfl dX2_keepOrder_33 ?_
    refine lv_aload_n hx hb dX2_keepOrder_36 rfl (lv_at hl 0 rfl) ?_
    refine va_get (D := D) (ci := 2) (v := .int (T.1 2)) (C := RX2) (T := TX2) (N := 7) hx hb hts iw_X2 hown hK hP 1 rfl rfl 6 (by decide) (hts _ w_fl_X2_29) (fun _ h9 => h9) rfl dX2_keepOrder_37 ?_
    refine lv_iload_n hx hb dX2_keepOrder_40 rfl (lv_at hl 3 rfl) ?_
    refine va_iast (cA := cs 0) (n := 24) (f := (T.2 5)) hx hb hK hP (z_D cs A (stA (stA T 3 (upd (T.2 3) (T.1 2).toNatClampNeg p1)) 4 (upd (T.2 4) (T.1 2).toNatClampNeg p2)) hd) hS 5 0 rfl rfl (in_X2_isOrder (by assumption)) dX2_keepOrder_41 (fun H locs hP _ hS => ?_)
    have hP : va_P D vwC (zW cs z A (stA (stA (stA T 3 (upd (T.2 3) (T.1 2).toNatClampNeg p1)) 4 (upd (T.2 4) (T.1 2).toNatClampNeg p2)) 5 (upd (T.2 5) (T.1 2).toNatClampNeg p3))) H := hP
    refine lv_aload_n hx hb dX2_keepOrder_42 rfl (lv_at hl 0 rfl) ?_
    refine lv_dup hx hb dX2_keepOrder_43 rfl ?_
    refine va_get (D := D) (ci := 2) (v := .int (T.1 2)) (C := RX2) (T := TX2) (N := 7) hx hb hts iw_X2 hown hK hP 1 rfl rfl 6 (by decide) (hts _ w_fl_X2_29) (fun _ h9 => h9) rfl dX2_keepOrder_44 ?_
    refine lv_iconst (v := 1) hx hb dX2_keepOrder_47 (by decide) ?_
    refine lv_iadd hx hb dX2_keepOrder_48 ?_
    refine va_put (D := D) (ci := 2) (v := .int ((T.1 2) + 1)) (ty := .int) (C := RX2) (T := TX2) (N := 7) hx hb hts iw_X2 tyX2 tyX2_ok nmX2 hown hK hP (z_D cs A (stA (stA (stA T 3 (upd (T.2 3) (T.1 2).toNatClampNeg p1)) 4 (upd (T.2 4) (T.1 2).toNatClampNeg p2)) 5 (upd (T.2 5) (T.1 2).toNatClampNeg p3)) hd) hS 1 rfl rfl 6 (by decide) (hts _ w_fl_X2_29) (fun _ h9 => h9) rfl (by decide +kernel) rfl rfl (Nat.le_of_ble_eq_true rfl) dX2_keepOrder_49 (fun H locs hP _ hS => ?_)
    have hP : va_P D vwC (zW cs z A (stS (stA (stA (stA T 3 (upd (T.2 3) (T.1 2).toNatClampNeg p1)) 4 (upd (T.2 4) (T.1 2).toNatClampNeg p2)) 5 (upd (T.2 5) (T.1 2).toNatClampNeg p3)) 2 ((T.1 2) + 1))) H := hP
    refine lv_iconst (v := 1) hx hb dX2_keepOrder_52 (by decide) ?_
    exact W.zret (ty := .boolean) (v := 1) hx hb hr (b2i_nar true) (fun t ht hW => ⟨⟨1, (stS (stA (stA (stA T 3 (upd (T.2 3) (T.1 2).toNatClampNeg p1)) 4 (upd (T.2 4) (T.1 2).toNatClampNeg p2)) 5 (upd (T.2 5) (T.1 2).toNatClampNeg p3)) 2 ((T.1 2) + 1)), rfl, pairb_eq hv, pw ht hP⟩, hS.F ht⟩) hS.2.2 dX2_keepOrder_53 (hlocks := hlocks)
  · have c7 := b2i_f c7
    have hv := (if_neg c7).symm.trans hv
    refine lv_iconst (v := 0) hx hb dX2_keepOrder_10 (by decide) ?_
    exact W.zret (ty := .boolean) (v := 0) hx hb hr (b2i_nar false) (fun t ht hW => ⟨⟨0, T, rfl, pairb_eq hv, pw ht hP⟩, hS.F ht⟩) hS.2.2 dX2_keepOrder_11 (hlocks := hlocks)
theorem hd_X2_readParts : yX2_readParts.cls ≠ "java/lang/invoke/MethodHandle" ∧ yX2_readParts.cls ≠ "java/lang/invoke/VarHandle" ∧ (parseMethodDescriptor yX2_readParts.desc).map (fun d => d.parameters.length) = some 4 := by decide +kernel
def sX2_readParts (T : OF) (p1 : Int32) (p2 : Int32) (p3 : Int32) (p4 : Int32) : Bool × OF := (if ((sX2_readNumber T 0 p2).1) = (-1) then (false, ((sX2_readNumber T 0 p2).2)) else (if ((sX2_readSign ((sX2_readNumber T 0 p2).2) p3).1) = true then (if p1 = 1 then (if ((sX2_readFields ((sX2_readSign ((sX2_readNumber T 0 p2).2) p3).2) p4).1) = (-1) then (false, ((sX2_readFields ((sX2_readSign ((sX2_readNumber T 0 p2).2) p3).2) p4).2)) else ((if ((sX2_keepOrder ((sX2_readFields ((sX2_readSign ((sX2_readNumber T 0 p2).2) p3).2) p4).2) p1 ((sX2_readNumber T 0 p2).1) ((sX2_readFields ((sX2_readSign ((sX2_readNumber T 0 p2).2) p3).2) p4).1)).1) = true then true else false), ((sX2_keepOrder ((sX2_readFields ((sX2_readSign ((sX2_readNumber T 0 p2).2) p3).2) p4).2) p1 ((sX2_readNumber T 0 p2).1) ((sX2_readFields ((sX2_readSign ((sX2_readNumber T 0 p2).2) p3).2) p4).1)).2))) else (if ((sX2_readNumber ((sX2_readSign ((sX2_readNumber T 0 p2).2) p3).2) 0 p4).1) = (-1) then (false, ((sX2_readNumber ((sX2_readSign ((sX2_readNumber T 0 p2).2) p3).2) 0 p4).2)) else ((if ((sX2_keepOrder ((sX2_readNumber ((sX2_readSign ((sX2_readNumber T 0 p2).2) p3).2) 0 p4).2) p1 ((sX2_readNumber T 0 p2).1) ((sX2_readNumber ((sX2_readSign ((sX2_readNumber T 0 p2).2) p3).2) 0 p4).1)).1) = true then true else false), ((sX2_keepOrder ((sX2_readNumber ((sX2_readSign ((sX2_readNumber T 0 p2).2) p3).2) 0 p4).2) p1 ((sX2_readNumber T 0 p2).1) ((sX2_readNumber ((sX2_readSign ((sX2_readNumber T 0 p2).2) p3).2) 0 p4).1)).2)))) else (false, ((sX2_readSign ((sX2_readNumber T 0 p2).2) p3).2))))
set_option maxHeartbeats 4000000 in
set_option maxRecDepth 100000 in
theorem c_X2_readParts (l : Launch) (D : va_G) (cs : Nat → ClassId) (z : Nat → Nat) (A : Nat → Nat → Nat) (T : OF) (p1 : Int32) (p2 : Int32) (p3 : Int32) (p4 : Int32) (hd : tD z A) : Met l yX2_readParts (wc yX2_readParts cX2_readParts 7 (some .boolean)) ({ frames := 3, cells := 0, slots := 0, locals := 72 } : Room) (va_Pc [.ref (z 1), .int p1, .int p2, .int p3, .int p4] (PE D cs (zW cs z A T))) (va_Qi (fun (r9 : Int32) (u : OF) => r9 = b2i (sX2_readParts T p1 p2 p3 p4).1 ∧ u = (sX2_readParts T p1 p2 p3 p4).2) (fun u t => va_P D vwC (zW cs z A u) t.heap) (zA z)) 0 0 (zA z) := by
  obtain ⟨v, hv⟩ : ∃ v, sX2_readParts T p1 p2 p3 p4 = v := ⟨_, rfl⟩
  rw [hv]
  refine met_o (lv := [(0, .ref (z 1)), (1, .int p1), (2, .int p2), (3, .int p3), (4, .int p4)]) (by decide) (Nat.le_of_ble_eq_true rfl) rfl ?_
  intro p e s m args below meth c ls hx hb hr hml hts hown hlocks hin hP hE hl
  have hown : s.vm.findClass RX2 = some m.cls := hown
  have hK := hE.1
  have hP : va_P D vwC (zW cs z A T) s.heap := hP
  have hS : va_S (zA z) s.heap s.heap [] := va_S.rf
  unfold sX2_readParts at hv
  refine lv_aload_n hx hb dX2_readParts_0 rfl (lv_at hl 0 rfl) ?_
  refine lv_iconst (v := 0) hx hb dX2_readParts_1 (by decide) ?_
  refine lv_iload_n hx hb dX2_readParts_2 rfl (lv_at hl 2 rfl) ?_
  refine w_i (sX2_readNumber T 0 p2) (va_runV (As := [.int 0, .int p2]) (rest := []) ⟨hx, hb, hml, hown, hts⟩ (c_X2_readNumber l D cs z A T 0 p2 hd) (cwV 2 hts (good_V w_ml_X2_51 w_im_X2_readNumber w_se_X2_readNumber w_in_X2 w_co_X2_readNumber) rfl rfl rfl ⟨rfl, hd_X2_readNumber⟩ ⟨Nat.le_of_ble_eq_true rfl, Nat.le_of_ble_eq_true rfl⟩) (pe_W (C := RX2) (T := TX2) (N := 7) (ci := 2) (q0 := 1) hP hE rfl rfl) rfl rfl hl.1 rfl (lv_room (Nat.le_of_ble_eq_true rfl)) dX2_readParts_3 ⟨Nat.zero_le _, Nat.zero_le _⟩) hS (fun _ _ h => h) (fun _ h => h) (fun t locs hB hz hk hS => ?_)
  have hP : va_P D vwC (zW cs z A ((sX2_readNumber T 0 p2).2)) t.heap := hB
  refine lv_istore (lv' := [(5, .int ((sX2_readNumber T 0 p2).1)), (0, .ref (z 1)), (1, .int p1), (2, .int p2), (3, .int p3), (4, .int p4)]) hx hb dX2_readParts_6 hl (by decide) rfl (fun ls hl => ?_)
  refine lv_iload hx hb dX2_readParts_8 (lv_at hl 0 rfl) ?_
  refine lv_iconst (v := (-1)) hx hb dX2_readParts_10 (by decide) ?_
  refine lv_icmp_eq (tgt := 22) hx hb dX2_readParts_11 (by decide) (fun c11 => ?_) (fun c11 => ?_)
  · have hv := (if_pos c11).symm.trans hv
    refine lv_iconst (v := 0) hx hb dX2_readParts_22 (by decide) ?_
    exact W.zret (ty := .boolean) (v := 0) hx hb hr (b2i_nar false) (fun t ht hW => ⟨⟨0, ((sX2_readNumber T 0 p2).2), rfl, pairb_eq hv, pw ht hP⟩, hS.F ht⟩) hS.2.2 dX2_readParts_23 (hlocks := hlocks)
  · have hv := (if_neg c11).symm.trans hv
    refine lv_aload_n hx hb dX2_readParts_14 rfl (lv_at hl 1 rfl) ?_
    refine lv_iload_n hx hb dX2_readParts_15 rfl (lv_at hl 4 rfl) ?_
    refine w_b (sX2_readSign ((sX2_readNumber T 0 p2).2) p3) (va_runV (As := [.int p3]) (rest := []) ⟨hx, hb, hml, hown, hts⟩ (c_X2_readSign l D cs z A ((sX2_readNumber T 0 p2).2) p3 hd) (cwV 1 hts (good_V w_ml_X2_43 w_im_X2_readSign w_se_X2_readSign w_in_X2 w_co_X2_readSign) rfl rfl rfl ⟨rfl, hd_X2_readSign⟩ ⟨Nat.le_of_ble_eq_true rfl, Nat.le_of_ble_eq_true rfl⟩) (pe_W (C := RX2) (T := TX2) (N := 7) (ci := 2) (q0 := 1) hP hE rfl rfl) rfl rfl hl.1 rfl (lv_room (Nat.le_of_ble_eq_true rfl)) dX2_readParts_16 ⟨Nat.zero_le _, Nat.zero_le _⟩) hS (fun _ _ h => h) (fun _ h => h) (fun t locs hB hz hk hS => ?_)
    have hP : va_P D vwC (zW cs z A ((sX2_readSign ((sX2_readNumber T 0 p2).2) p3).2)) t.heap := hB
    refine lv_if_ne (tgt := 24) hx hb dX2_readParts_19 (by decide) (fun c19 => ?_) (fun c19 => ?_)
    · have c19 := b2i_t c19
      have hv := (if_pos c19).symm.trans hv
      refine lv_iload_n hx hb dX2_readParts_24 rfl (lv_at hl 2 rfl) ?_
      refine lv_iconst (v := 1) hx hb dX2_readParts_25 (by decide) ?_
      refine lv_icmp_ne (tgt := 38) hx hb dX2_readParts_26 (by decide) (fun c26 => ?_) (fun c26 => ?_)
      · have hv := (if_neg c26).symm.trans hv
        refine lv_aload_n hx hb dX2_readParts_38 rfl (lv_at hl 1 rfl) ?_
        refine lv_iconst (v := 0) hx hb dX2_readParts_39 (by decide) ?_
        refine lv_iload hx hb dX2_readParts_40 (lv_at hl 5 rfl) ?_
        refine w_i (sX2_readNumber ((sX2_readSign ((sX2_readNumber T 0 p2).2) p3).2) 0 p4) (va_runV (As := [.int 0, .int p4]) (rest := []) ⟨hx, hb, hml, hown, hts⟩ (c_X2_readNumber l D cs z A ((sX2_readSign ((sX2_readNumber T 0 p2).2) p3).2) 0 p4 hd) (cwV 2 hts (good_V w_ml_X2_51 w_im_X2_readNumber w_se_X2_readNumber w_in_X2 w_co_X2_readNumber) rfl rfl rfl ⟨rfl, hd_X2_readNumber⟩ ⟨Nat.le_of_ble_eq_true rfl, Nat.le_of_ble_eq_true rfl⟩) (pe_W (C := RX2) (T := TX2) (N := 7) (ci := 2) (q0 := 1) hP hE rfl rfl) rfl rfl hl.1 rfl (lv_room (Nat.le_of_ble_eq_true rfl)) dX2_readParts_42 ⟨Nat.zero_le _, Nat.zero_le _⟩) hS (fun _ _ h => h) (fun _ h => h) (fun t locs hB hz hk hS => ?_)
        have hP : va_P D vwC (zW cs z A ((sX2_readNumber ((sX2_readSign ((sX2_readNumber T 0 p2).2) p3).2) 0 p4).2)) t.heap := hB
        refine lv_istore (lv' := [(6, .int ((sX2_readNumber ((sX2_readSign ((sX2_readNumber T 0 p2).2) p3).2) 0 p4).1)), (5, .int ((sX2_readNumber T 0 p2).1)), (0, .ref (z 1)), (1, .int p1), (2, .int p2), (3, .int p3), (4, .int p4)]) hx hb dX2_readParts_45 hl (by decide) rfl (fun ls hl => ?_)
        refine lv_iload hx hb dX2_readParts_47 (lv_at hl 0 rfl) ?_
        refine lv_iconst (v := (-1)) hx hb dX2_readParts_49 (by decide) ?_
        refine lv_icmp_eq (tgt := 69) hx hb dX2_readParts_50 (by decide) (fun c50 => ?_) (fun c50 => ?_)
        · have hv := (if_pos c50).symm.trans hv
          refine lv_iconst (v := 0) hx hb dX2_readParts_69 (by decide) ?_
          exact W.zret (ty := .boolean) (v := 0) hx hb hr (b2i_nar false) (fun t ht hW => ⟨⟨0, ((sX2_readNumber ((sX2_readSign ((sX2_readNumber T 0 p2).2) p3).2) 0 p4).2), rfl, pairb_eq hv, pw ht hP⟩, hS.F ht⟩) hS.2.2 dX2_readParts_70 (hlocks := hlocks)
        · have hv := (if_neg c50).symm.trans hv
          refine lv_aload_n hx hb dX2_readParts_53 rfl (lv_at hl 2 rfl) ?_
          refine lv_iload_n hx hb dX2_readParts_54 rfl (lv_at hl 3 rfl) ?_
          refine lv_iload hx hb dX2_readParts_55 (lv_at hl 1 rfl) ?_
          refine lv_iload hx hb dX2_readParts_57 (lv_at hl 0 rfl) ?_
          refine w_b (sX2_keepOrder ((sX2_readNumber ((sX2_readSign ((sX2_readNumber T 0 p2).2) p3).2) 0 p4).2) p1 ((sX2_readNumber T 0 p2).1) ((sX2_readNumber ((sX2_readSign ((sX2_readNumber T 0 p2).2) p3).2) 0 p4).1)) (va_runV (As := [.int p1, .int ((sX2_readNumber T 0 p2).1), .int ((sX2_readNumber ((sX2_readSign ((sX2_readNumber T 0 p2).2) p3).2) 0 p4).1)]) (rest := []) ⟨hx, hb, hml, hown, hts⟩ (c_X2_keepOrder l D cs z A ((sX2_readNumber ((sX2_readSign ((sX2_readNumber T 0 p2).2) p3).2) 0 p4).2) p1 ((sX2_readNumber T 0 p2).1) ((sX2_readNumber ((sX2_readSign ((sX2_readNumber T 0 p2).2) p3).2) 0 p4).1) hd) (cwV 3 hts (good_V w_ml_X2_55 w_im_X2_keepOrder w_se_X2_keepOrder w_in_X2 w_co_X2_keepOrder) rfl rfl rfl ⟨rfl, hd_X2_keepOrder⟩ ⟨Nat.le_of_ble_eq_true rfl, Nat.le_of_ble_eq_true rfl⟩) (pe_W (C := RX2) (T := TX2) (N := 7) (ci := 2) (q0 := 1) hP hE rfl rfl) rfl rfl hl.1 rfl (lv_room (Nat.le_of_ble_eq_true rfl)) dX2_readParts_59 ⟨Nat.zero_le _, Nat.zero_le _⟩) hS (fun _ _ h => h) (fun _ h => h) (fun t locs hB hz hk hS => ?_)
          have hP : va_P D vwC (zW cs z A ((sX2_keepOrder ((sX2_readNumber ((sX2_readSign ((sX2_readNumber T 0 p2).2) p3).2) 0 p4).2) p1 ((sX2_readNumber T 0 p2).1) ((sX2_readNumber ((sX2_readSign ((sX2_readNumber T 0 p2).2) p3).2) 0 p4).1)).2)) t.heap := hB
          refine join_i (J := 70) (ls := ls) (rest := []) (b2i (if ((sX2_keepOrder ((sX2_readNumber ((sX2_readSign ((sX2_readNumber T 0 p2).2) p3).2) 0 p4).2) p1 ((sX2_readNumber T 0 p2).1) ((sX2_readNumber ((sX2_readSign ((sX2_readNumber T 0 p2).2) p3).2) 0 p4).1)).1) = true then true else false)) ?_ (fun hJ => ?_)
          · exact W.zret (ty := .boolean) (v := b2i (if ((sX2_keepOrder ((sX2_readNumber ((sX2_readSign ((sX2_readNumber T 0 p2).2) p3).2) 0 p4).2) p1 ((sX2_readNumber T 0 p2).1) ((sX2_readNumber ((sX2_readSign ((sX2_readNumber T 0 p2).2) p3).2) 0 p4).1)).1) = true then true else false)) hx hb hr (b2i_nar (if ((sX2_keepOrder ((sX2_readNumber ((sX2_readSign ((sX2_readNumber T 0 p2).2) p3).2) 0 p4).2) p1 ((sX2_readNumber T 0 p2).1) ((sX2_readNumber ((sX2_readSign ((sX2_readNumber T 0 p2).2) p3).2) 0 p4).1)).1) = true then true else false)) (fun t ht hW => ⟨⟨b2i (if ((sX2_keepOrder ((sX2_readNumber ((sX2_readSign ((sX2_readNumber T 0 p2).2) p3).2) 0 p4).2) p1 ((sX2_readNumber T 0 p2).1) ((sX2_readNumber ((sX2_readSign ((sX2_readNumber T 0 p2).2) p3).2) 0 p4).1)).1) = true then true else false), ((sX2_keepOrder ((sX2_readNumber ((sX2_readSign ((sX2_readNumber T 0 p2).2) p3).2) 0 p4).2) p1 ((sX2_readNumber T 0 p2).1) ((sX2_readNumber ((sX2_readSign ((sX2_readNumber T 0 p2).2) p3).2) 0 p4).1)).2), rfl, pairb_eq hv, pw ht hP⟩, hS.F ht⟩) hS.2.2 dX2_readParts_70 (hlocks := hlocks)
          · refine lv_if_eq (tgt := 69) hx hb dX2_readParts_62 (by decide) (fun c62 => ?_) (fun c62 => ?_)
            · have c62 := b2i_f c62
              refine lv_iconst (v := 0) hx hb dX2_readParts_69 (by decide) ?_
              exact hJ _ (congrArg b2i ((if_neg c62).trans rfl))
            · have c62 := b2i_t c62
              refine lv_iconst (v := 1) hx hb dX2_readParts_65 (by decide) ?_
              refine lv_goto (tgt := 70) hx hb dX2_readParts_66 (by decide) ?_
              exact hJ _ (congrArg b2i ((if_pos c62).trans rfl))
      · have hv := (if_pos c26).symm.trans hv
        refine lv_aload_n hx hb dX2_readParts_29 rfl (lv_at hl 1 rfl) ?_
        refine lv_iload hx hb dX2_readParts_30 (lv_at hl 5 rfl) ?_
        refine w_i (sX2_readFields ((sX2_readSign ((sX2_readNumber T 0 p2).2) p3).2) p4) (va_runV (As := [.int p4]) (rest := []) ⟨hx, hb, hml, hown, hts⟩ (c_X2_readFields l D cs z A ((sX2_readSign ((sX2_readNumber T 0 p2).2) p3).2) p4 hd) (cwV 1 hts (good_V w_ml_X2_66 w_im_X2_readFields w_se_X2_readFields w_in_X2 w_co_X2_readFields) rfl rfl rfl ⟨rfl, hd_X2_readFields⟩ ⟨Nat.le_of_ble_eq_true rfl, Nat.le_of_ble_eq_true rfl⟩) (pe_W (C := RX2) (T := TX2) (N := 7) (ci := 2) (q0 := 1) hP hE rfl rfl) rfl rfl hl.1 rfl (lv_room (Nat.le_of_ble_eq_true rfl)) dX2_readParts_32 ⟨Nat.zero_le _, Nat.zero_le _⟩) hS (fun _ _ h => h) (fun _ h => h) (fun t locs hB hz hk hS => ?_)
        have hP : va_P D vwC (zW cs z A ((sX2_readFields ((sX2_readSign ((sX2_readNumber T 0 p2).2) p3).2) p4).2)) t.heap := hB
        refine lv_goto (tgt := 45) hx hb dX2_readParts_35 (by decide) ?_
        refine lv_istore (lv' := [(6, .int ((sX2_readFields ((sX2_readSign ((sX2_readNumber T 0 p2).2) p3).2) p4).1)), (5, .int ((sX2_readNumber T 0 p2).1)), (0, .ref (z 1)), (1, .int p1), (2, .int p2), (3, .int p3), (4, .int p4)]) hx hb dX2_readParts_45 hl (by decide) rfl (fun ls hl => ?_)
        refine lv_iload hx hb dX2_readParts_47 (lv_at hl 0 rfl) ?_
        refine lv_iconst (v := (-1)) hx hb dX2_readParts_49 (by decide) ?_
        refine lv_icmp_eq (tgt := 69) hx hb dX2_readParts_50 (by decide) (fun c50 => ?_) (fun c50 => ?_)
        · have hv := (if_pos c50).symm.trans hv
          refine lv_iconst (v := 0) hx hb dX2_readParts_69 (by decide) ?_
          exact W.zret (ty := .boolean) (v := 0) hx hb hr (b2i_nar false) (fun t ht hW => ⟨⟨0, ((sX2_readFields ((sX2_readSign ((sX2_readNumber T 0 p2).2) p3).2) p4).2), rfl, pairb_eq hv, pw ht hP⟩, hS.F ht⟩) hS.2.2 dX2_readParts_70 (hlocks := hlocks)
        · have hv := (if_neg c50).symm.trans hv
          refine lv_aload_n hx hb dX2_readParts_53 rfl (lv_at hl 2 rfl) ?_
          refine lv_iload_n hx hb dX2_readParts_54 rfl (lv_at hl 3 rfl) ?_
          refine lv_iload hx hb dX2_readParts_55 (lv_at hl 1 rfl) ?_
          refine lv_iload hx hb dX2_readParts_57 (lv_at hl 0 rfl) ?_
          refine w_b (sX2_keepOrder ((sX2_readFields ((sX2_readSign ((sX2_readNumber T 0 p2).2) p3).2) p4).2) p1 ((sX2_readNumber T 0 p2).1) ((sX2_readFields ((sX2_readSign ((sX2_readNumber T 0 p2).2) p3).2) p4).1)) (va_runV (As := [.int p1, .int ((sX2_readNumber T 0 p2).1), .int ((sX2_readFields ((sX2_readSign ((sX2_readNumber T 0 p2).2) p3).2) p4).1)]) (rest := []) ⟨hx, hb, hml, hown, hts⟩ (c_X2_keepOrder l D cs z A ((sX2_readFields ((sX2_readSign ((sX2_readNumber T 0 p2).2) p3).2) p4).2) p1 ((sX2_readNumber T 0 p2).1) ((sX2_readFields ((sX2_readSign ((sX2_readNumber T 0 p2).2) p3).2) p4).1) hd) (cwV 3 hts (good_V w_ml_X2_55 w_im_X2_keepOrder w_se_X2_keepOrder w_in_X2 w_co_X2_keepOrder) rfl rfl rfl ⟨rfl, hd_X2_keepOrder⟩ ⟨Nat.le_of_ble_eq_true rfl, Nat.le_of_ble_eq_true rfl⟩) (pe_W (C := RX2) (T := TX2) (N := 7) (ci := 2) (q0 := 1) hP hE rfl rfl) rfl rfl hl.1 rfl (lv_room (Nat.le_of_ble_eq_true rfl)) dX2_readParts_59 ⟨Nat.zero_le _, Nat.zero_le _⟩) hS (fun _ _ h => h) (fun _ h => h) (fun t locs hB hz hk hS => ?_)
          have hP : va_P D vwC (zW cs z A ((sX2_keepOrder ((sX2_readFields ((sX2_readSign ((sX2_readNumber T 0 p2).2) p3).2) p4).2) p1 ((sX2_readNumber T 0 p2).1) ((sX2_readFields ((sX2_readSign ((sX2_readNumber T 0 p2).2) p3).2) p4).1)).2)) t.heap := hB
          refine join_i (J := 70) (ls := ls) (rest := []) (b2i (if ((sX2_keepOrder ((sX2_readFields ((sX2_readSign ((sX2_readNumber T 0 p2).2) p3).2) p4).2) p1 ((sX2_readNumber T 0 p2).1) ((sX2_readFields ((sX2_readSign ((sX2_readNumber T 0 p2).2) p3).2) p4).1)).1) = true then true else false)) ?_ (fun hJ => ?_)
          · exact W.zret (ty := .boolean) (v := b2i (if ((sX2_keepOrder ((sX2_readFields ((sX2_readSign ((sX2_readNumber T 0 p2).2) p3).2) p4).2) p1 ((sX2_readNumber T 0 p2).1) ((sX2_readFields ((sX2_readSign ((sX2_readNumber T 0 p2).2) p3).2) p4).1)).1) = true then true else false)) hx hb hr (b2i_nar (if ((sX2_keepOrder ((sX2_readFields ((sX2_readSign ((sX2_readNumber T 0 p2).2) p3).2) p4).2) p1 ((sX2_readNumber T 0 p2).1) ((sX2_readFields ((sX2_readSign ((sX2_readNumber T 0 p2).2) p3).2) p4).1)).1) = true then true else false)) (fun t ht hW => ⟨⟨b2i (if ((sX2_keepOrder ((sX2_readFields ((sX2_readSign ((sX2_readNumber T 0 p2).2) p3).2) p4).2) p1 ((sX2_readNumber T 0 p2).1) ((sX2_readFields ((sX2_readSign ((sX2_readNumber T 0 p2).2) p3).2) p4).1)).1) = true then true else false), ((sX2_keepOrder ((sX2_readFields ((sX2_readSign ((sX2_readNumber T 0 p2).2) p3).2) p4).2) p1 ((sX2_readNumber T 0 p2).1) ((sX2_readFields ((sX2_readSign ((sX2_readNumber T 0 p2).2) p3).2) p4).1)).2), rfl, pairb_eq hv, pw ht hP⟩, hS.F ht⟩) hS.2.2 dX2_readParts_70 (hlocks := hlocks)
          · refine lv_if_eq (tgt := 69) hx hb dX2_readParts_62 (by decide) (fun c62 => ?_) (fun c62 => ?_)
            · have c62 := b2i_f c62
              refine lv_iconst (v := 0) hx hb dX2_readParts_69 (by decide) ?_
              exact hJ _ (congrArg b2i ((if_neg c62).trans rfl))
            · have c62 := b2i_t c62
              refine lv_iconst (v := 1) hx hb dX2_readParts_65 (by decide) ?_
              refine lv_goto (tgt := 70) hx hb dX2_readParts_66 (by decide) ?_
              exact hJ _ (congrArg b2i ((if_pos c62).trans rfl))
    · have c19 := b2i_f c19
      have hv := (if_neg c19).symm.trans hv
      refine lv_iconst (v := 0) hx hb dX2_readParts_22 (by decide) ?_
      exact W.zret (ty := .boolean) (v := 0) hx hb hr (b2i_nar false) (fun t ht hW => ⟨⟨0, ((sX2_readSign ((sX2_readNumber T 0 p2).2) p3).2), rfl, pairb_eq hv, pw ht hP⟩, hS.F ht⟩) hS.2.2 dX2_readParts_23 (hlocks := hlocks)
theorem hd_X2_readDays : yX2_readDays.cls ≠ "java/lang/invoke/MethodHandle" ∧ yX2_readDays.cls ≠ "java/lang/invoke/VarHandle" ∧ (parseMethodDescriptor yX2_readDays.desc).map (fun d => d.parameters.length) = some 1 := by decide +kernel
def sX2_readDays (T : OF) (p1 : Int32) : Bool × OF := (if ((sX2_readNumber T 1 30).1) = (-1) then (false, ((sX2_readNumber T 1 30).2)) else ((if ((sX2_keepOrder ((sX2_readNumber T 1 30).2) p1 ((sX2_readNumber T 1 30).1) 0).1) = true then true else false), ((sX2_keepOrder ((sX2_readNumber T 1 30).2) p1 ((sX2_readNumber T 1 30).1) 0).2)))
set_option maxHeartbeats 4000000 in
set_option maxRecDepth 100000 in
theorem c_X2_readDays (l : Launch) (D : va_G) (cs : Nat → ClassId) (z : Nat → Nat) (A : Nat → Nat → Nat) (T : OF) (p1 : Int32) (hd : tD z A) : Met l yX2_readDays (wc yX2_readDays cX2_readDays 3 (some .boolean)) ({ frames := 2, cells := 0, slots := 0, locals := 47 } : Room) (va_Pc [.ref (z 1), .int p1] (PE D cs (zW cs z A T))) (va_Qi (fun (r9 : Int32) (u : OF) => r9 = b2i (sX2_readDays T p1).1 ∧ u = (sX2_readDays T p1).2) (fun u t => va_P D vwC (zW cs z A u) t.heap) (zA z)) 0 0 (zA z) := by
  obtain ⟨v, hv⟩ : ∃ v, sX2_readDays T p1 = v := ⟨_, rfl⟩
  rw [hv]
  refine met_o (lv := [(0, .ref (z 1)), (1, .int p1)]) (by decide) (Nat.le_of_ble_eq_true rfl) rfl ?_
  intro p e s m args below meth c ls hx hb hr hml hts hown hlocks hin hP hE hl
  have hown : s.vm.findClass RX2 = some m.cls := hown
  have hK := hE.1
  have hP : va_P D vwC (zW cs z A T) s.heap := hP
  have hS : va_S (zA z) s.heap s.heap [] := va_S.rf
  unfold sX2_readDays at hv
  refine lv_aload_n hx hb dX2_readDays_0 rfl (lv_at hl 0 rfl) ?_
  refine lv_iconst (v := 1) hx hb dX2_readDays_1 (by decide) ?_
  refine lv_bipush (v := 30) hx hb dX2_readDays_2 (by decide) ?_
  refine w_i (sX2_readNumber T 1 30) (va_runV (As := [.int 1, .int 30]) (rest := []) ⟨hx, hb, hml, hown, hts⟩ (c_X2_readNumber l D cs z A T 1 30 hd) (cwV 2 hts (good_V w_ml_X2_51 w_im_X2_readNumber w_se_X2_readNumber w_in_X2 w_co_X2_readNumber) rfl rfl rfl ⟨rfl, hd_X2_readNumber⟩ ⟨Nat.le_of_ble_eq_true rfl, Nat.le_of_ble_eq_true rfl⟩) (pe_W (C := RX2) (T := TX2) (N := 7) (ci := 2) (q0 := 1) hP hE rfl rfl) rfl rfl hl.1 rfl (lv_room (Nat.le_of_ble_eq_true rfl)) dX2_readDays_4 ⟨Nat.zero_le _, Nat.zero_le _⟩) hS (fun _ _ h => h) (fun _ h => h) (fun t locs hB hz hk hS => ?_)
  have hP : va_P D vwC (zW cs z A ((sX2_readNumber T 1 30).2)) t.heap := hB
  refine lv_istore_n (lv' := [(2, .int ((sX2_readNumber T 1 30).1)), (0, .ref (z 1)), (1, .int p1)]) hx hb dX2_readDays_7 rfl hl (by decide) rfl (fun ls hl => ?_)
  refine lv_iload_n hx hb dX2_readDays_8 rfl (lv_at hl 0 rfl) ?_
  refine lv_iconst (v := (-1)) hx hb dX2_readDays_9 (by decide) ?_
  refine lv_icmp_eq (tgt := 27) hx hb dX2_readDays_10 (by decide) (fun c10 => ?_) (fun c10 => ?_)
  · have hv := (if_pos c10).symm.trans hv
    refine lv_iconst (v := 0) hx hb dX2_readDays_27 (by decide) ?_
    exact W.zret (ty := .boolean) (v := 0) hx hb hr (b2i_nar false) (fun t ht hW => ⟨⟨0, ((sX2_readNumber T 1 30).2), rfl, pairb_eq hv, pw ht hP⟩, hS.F ht⟩) hS.2.2 dX2_readDays_28 (hlocks := hlocks)
  · have hv := (if_neg c10).symm.trans hv
    refine lv_aload_n hx hb dX2_readDays_13 rfl (lv_at hl 1 rfl) ?_
    refine lv_iload_n hx hb dX2_readDays_14 rfl (lv_at hl 2 rfl) ?_
    refine lv_iload_n hx hb dX2_readDays_15 rfl (lv_at hl 0 rfl) ?_
    refine lv_iconst (v := 0) hx hb dX2_readDays_16 (by decide) ?_
    refine w_b (sX2_keepOrder ((sX2_readNumber T 1 30).2) p1 ((sX2_readNumber T 1 30).1) 0) (va_runV (As := [.int p1, .int ((sX2_readNumber T 1 30).1), .int 0]) (rest := []) ⟨hx, hb, hml, hown, hts⟩ (c_X2_keepOrder l D cs z A ((sX2_readNumber T 1 30).2) p1 ((sX2_readNumber T 1 30).1) 0 hd) (cwV 3 hts (good_V w_ml_X2_55 w_im_X2_keepOrder w_se_X2_keepOrder w_in_X2 w_co_X2_keepOrder) rfl rfl rfl ⟨rfl, hd_X2_keepOrder⟩ ⟨Nat.le_of_ble_eq_true rfl, Nat.le_of_ble_eq_true rfl⟩) (pe_W (C := RX2) (T := TX2) (N := 7) (ci := 2) (q0 := 1) hP hE rfl rfl) rfl rfl hl.1 rfl (lv_room (Nat.le_of_ble_eq_true rfl)) dX2_readDays_17 ⟨Nat.zero_le _, Nat.zero_le _⟩) hS (fun _ _ h => h) (fun _ h => h) (fun t locs hB hz hk hS => ?_)
    have hP : va_P D vwC (zW cs z A ((sX2_keepOrder ((sX2_readNumber T 1 30).2) p1 ((sX2_readNumber T 1 30).1) 0).2)) t.heap := hB
    refine join_i (J := 28) (ls := ls) (rest := []) (b2i (if ((sX2_keepOrder ((sX2_readNumber T 1 30).2) p1 ((sX2_readNumber T 1 30).1) 0).1) = true then true else false)) ?_ (fun hJ => ?_)
    · exact W.zret (ty := .boolean) (v := b2i (if ((sX2_keepOrder ((sX2_readNumber T 1 30).2) p1 ((sX2_readNumber T 1 30).1) 0).1) = true then true else false)) hx hb hr (b2i_nar (if ((sX2_keepOrder ((sX2_readNumber T 1 30).2) p1 ((sX2_readNumber T 1 30).1) 0).1) = true then true else false)) (fun t ht hW => ⟨⟨b2i (if ((sX2_keepOrder ((sX2_readNumber T 1 30).2) p1 ((sX2_readNumber T 1 30).1) 0).1) = true then true else false), ((sX2_keepOrder ((sX2_readNumber T 1 30).2) p1 ((sX2_readNumber T 1 30).1) 0).2), rfl, pairb_eq hv, pw ht hP⟩, hS.F ht⟩) hS.2.2 dX2_readDays_28 (hlocks := hlocks)
    · refine lv_if_eq (tgt := 27) hx hb dX2_readDays_20 (by decide) (fun c20 => ?_) (fun c20 => ?_)
      · have c20 := b2i_f c20
        refine lv_iconst (v := 0) hx hb dX2_readDays_27 (by decide) ?_
        exact hJ _ (congrArg b2i ((if_neg c20).trans rfl))
      · have c20 := b2i_t c20
        refine lv_iconst (v := 1) hx hb dX2_readDays_23 (by decide) ?_
        refine lv_goto (tgt := 28) hx hb dX2_readDays_24 (by decide) ?_
        exact hJ _ (congrArg b2i ((if_pos c20).trans rfl))
theorem hd_X0_clear : yX0_clear.cls ≠ "java/lang/invoke/MethodHandle" ∧ yX0_clear.cls ≠ "java/lang/invoke/VarHandle" ∧ (parseMethodDescriptor yX0_clear.desc).map (fun d => d.parameters.length) = some 0 := by decide +kernel
def sX0_clear (T : OF) : OF := (stS T 3 0)
set_option maxHeartbeats 4000000 in
set_option maxRecDepth 100000 in
theorem c_X0_clear (l : Launch) (D : va_G) (cs : Nat → ClassId) (z : Nat → Nat) (A : Nat → Nat → Nat) (T : OF) (hd : tD z A) : Met l yX0_clear (wc yX0_clear cX0_clear 1 none) ({ frames := 0, cells := 0, slots := 0, locals := 0 } : Room) (va_Pc [.ref (z 6)] (PE D cs (zW cs z A T))) (va_Qv (fun u : OF => u = (sX0_clear T)) (fun u t => va_P D vwC (zW cs z A u) t.heap) (zA z)) 0 0 (zA z) := by
  obtain ⟨v, hv⟩ : ∃ v, sX0_clear T = v := ⟨_, rfl⟩
  rw [hv]
  refine met_o (lv := [(0, .ref (z 6))]) (by decide) (Nat.le_of_ble_eq_true rfl) rfl ?_
  intro p e s m args below meth c ls hx hb hr hml hts hown hlocks hin hP hE hl
  have hown : s.vm.findClass RX0 = some m.cls := hown
  have hK := hE.1
  have hP : va_P D vwC (zW cs z A T) s.heap := hP
  have hS : va_S (zA z) s.heap s.heap [] := va_S.rf
  unfold sX0_clear at hv
  refine lv_aload_n hx hb dX0_clear_0 rfl (lv_at hl 0 rfl) ?_
  refine lv_iconst (v := 0) hx hb dX0_clear_1 (by decide) ?_
  refine va_put (D := D) (ci := 0) (v := .int 0) (ty := .int) (C := RX0) (T := TX0) (N := 3) hx hb hts iw_X0 tyX0 tyX0_ok nmX0 hown hK hP (z_D cs A T hd) hS 6 rfl rfl 1 (by decide) (hts _ w_fl_X0_18) (fun _ h9 => h9) rfl (by decide +kernel) rfl rfl (Nat.le_of_ble_eq_true rfl) dX0_clear_2 (fun H locs hP _ hS => ?_)
  have hP : va_P D vwC (zW cs z A (stS T 3 0)) H := hP
  exact W.vret hx hb hr (fun t ht hW => ⟨⟨(stS T 3 0), rfl, hv, pw ht hP⟩, hS.F ht⟩) hS.2.2 dX0_clear_5 (hlocks := hlocks)
theorem hd_X0_isEmpty : yX0_isEmpty.cls ≠ "java/lang/invoke/MethodHandle" ∧ yX0_isEmpty.cls ≠ "java/lang/invoke/VarHandle" ∧ (parseMethodDescriptor yX0_isEmpty.desc).map (fun d => d.parameters.length) = some 0 := by decide +kernel
def sX0_isEmpty (T : OF) : Bool := (if (T.1 3) = 0 then true else false)
set_option maxHeartbeats 4000000 in
set_option maxRecDepth 100000 in
theorem c_X0_isEmpty (l : Launch) (D : va_G) (cs : Nat → ClassId) (z : Nat → Nat) (A : Nat → Nat → Nat) (T : OF) : Met l yX0_isEmpty (wc yX0_isEmpty cX0_isEmpty 1 (some .boolean)) ({ frames := 0, cells := 0, slots := 0, locals := 0 } : Room) (va_Pc [.ref (z 6)] (PE D cs (zW cs z A T))) (vp_Si (fun r9 => r9 = b2i (sX0_isEmpty T))) 0 0 (fun _ => False) := by
  obtain ⟨v, hv⟩ : ∃ v, sX0_isEmpty T = v := ⟨_, rfl⟩
  rw [hv]
  refine met_o (lv := [(0, .ref (z 6))]) (by decide) (Nat.le_of_ble_eq_true rfl) rfl ?_
  intro p e s m args below meth c ls hx hb hr hml hts hown hlocks hin hP hE hl
  have hown : s.vm.findClass RX0 = some m.cls := hown
  have hK := hE.1
  have hP : va_P D vwC (zW cs z A T) s.heap := hP
  unfold sX0_isEmpty at hv
  refine lv_aload_n hx hb dX0_isEmpty_0 rfl (lv_at hl 0 rfl) ?_
  refine va_get (D := D) (ci := 0) (v := .int (T.1 3)) (C := RX0) (T := TX0) (N := 3) hx hb hts iw_X0 hown hK hP 6 rfl rfl 1 (by decide) (hts _ w_fl_X0_18) (fun _ h9 => h9) rfl dX0_isEmpty_1 ?_
  refine join_i (J := 12) (ls := ls) (rest := []) (b2i (if (T.1 3) = 0 then true else false)) ?_ (fun hJ => ?_)
  · exact W.zret (ty := .boolean) (v := b2i (if (T.1 3) = 0 then true else false)) hx hb hr (b2i_nar (if (T.1 3) = 0 then true else false)) (fun t ht hW => ⟨b2i (if (T.1 3) = 0 then true else false), rfl, congrArg b2i hv, ht⟩) (fun _ h => nomatch h) dX0_isEmpty_12 (hlocks := hlocks)
  · refine lv_if_ne (tgt := 11) hx hb dX0_isEmpty_4 (by decide) (fun c4 => ?_) (fun c4 => ?_)
    · refine lv_iconst (v := 0) hx hb dX0_isEmpty_11 (by decide) ?_
      exact hJ _ (congrArg b2i ((if_neg c4).trans rfl))
    · refine lv_iconst (v := 1) hx hb dX0_isEmpty_7 (by decide) ?_
      refine lv_goto (tgt := 12) hx hb dX0_isEmpty_8 (by decide) ?_
      exact hJ _ (congrArg b2i ((if_pos c4).trans rfl))
theorem hd_X0_rememberHeld : yX0_rememberHeld.cls ≠ "java/lang/invoke/MethodHandle" ∧ yX0_rememberHeld.cls ≠ "java/lang/invoke/VarHandle" ∧ (parseMethodDescriptor yX0_rememberHeld.desc).map (fun d => d.parameters.length) = some 0 := by decide +kernel
def sX0_rememberHeld (T : OF) : OF := (stS (stS T 4 (((T.1 4) + 1) - ((T.1 4) + 1) / 15 * 15)) 3 (if 14 < ((T.1 3) + 1) then 14 else ((T.1 3) + 1)))
set_option maxHeartbeats 4000000 in
set_option maxRecDepth 100000 in
theorem c_X0_rememberHeld (l : Launch) (D : va_G) (cs : Nat → ClassId) (z : Nat → Nat) (A : Nat → Nat → Nat) (T : OF) (hd : tD z A) : Met l yX0_rememberHeld (wc yX0_rememberHeld cX0_rememberHeld 1 none) ({ frames := 1, cells := 0, slots := 0, locals := 14 } : Room) (va_Pc [.ref (z 6)] (PE D cs (zW cs z A T))) (va_Qv (fun u : OF => u = (sX0_rememberHeld T)) (fun u t => va_P D vwC (zW cs z A u) t.heap) (zA z)) 0 0 (zA z) := by
  obtain ⟨v, hv⟩ : ∃ v, sX0_rememberHeld T = v := ⟨_, rfl⟩
  rw [hv]
  refine met_o (lv := [(0, .ref (z 6))]) (by decide) (Nat.le_of_ble_eq_true rfl) rfl ?_
  intro p e s m args below meth c ls hx hb hr hml hts hown hlocks hin hP hE hl
  have hown : s.vm.findClass RX0 = some m.cls := hown
  have hK := hE.1
  have hP : va_P D vwC (zW cs z A T) s.heap := hP
  have hS : va_S (zA z) s.heap s.heap [] := va_S.rf
  unfold sX0_rememberHeld at hv
  refine lv_aload_n hx hb dX0_rememberHeld_0 rfl (lv_at hl 0 rfl) ?_
  refine lv_aload_n hx hb dX0_rememberHeld_1 rfl (lv_at hl 0 rfl) ?_
  refine va_get (D := D) (ci := 0) (v := .int (T.1 4)) (C := RX0) (T := TX0) (N := 3) hx hb hts iw_X0 hown hK hP 6 rfl rfl 2 (by decide) (hts _ w_fl_X0_22) (fun _ h9 => h9) rfl dX0_rememberHeld_2 ?_
  refine lv_iconst (v := 1) hx hb dX0_rememberHeld_5 (by decide) ?_
  refine lv_iadd hx hb dX0_rememberHeld_6 ?_
  refine lv_bipush (v := 15) hx hb dX0_rememberHeld_7 (by decide) ?_
  refine lv_irem hx hb dX0_rememberHeld_9 (by decide) ?_
  refine va_put (D := D) (ci := 0) (v := .int (((T.1 4) + 1) - ((T.1 4) + 1) / 15 * 15)) (ty := .int) (C := RX0) (T := TX0) (N := 3) hx hb hts iw_X0 tyX0 tyX0_ok nmX0 hown hK hP (z_D cs A T hd) hS 6 rfl rfl 2 (by decide) (hts _ w_fl_X0_22) (fun _ h9 => h9) rfl (by decide +kernel) rfl rfl (Nat.le_of_ble_eq_true rfl) dX0_rememberHeld_10 (fun H locs hP _ hS => ?_)
  have hP : va_P D vwC (zW cs z A (stS T 4 (((T.1 4) + 1) - ((T.1 4) + 1) / 15 * 15))) H := hP
  refine lv_aload_n hx hb dX0_rememberHeld_13 rfl (lv_at hl 0 rfl) ?_
  refine lv_aload_n hx hb dX0_rememberHeld_14 rfl (lv_at hl 0 rfl) ?_
  refine va_get (D := D) (ci := 0) (v := .int (T.1 3)) (C := RX0) (T := TX0) (N := 3) hx hb hts iw_X0 hown hK hP 6 rfl rfl 1 (by decide) (hts _ w_fl_X0_18) (fun _ h9 => h9) rfl dX0_rememberHeld_15 ?_
  refine lv_iconst (v := 1) hx hb dX0_rememberHeld_18 (by decide) ?_
  refine lv_iadd hx hb dX0_rememberHeld_19 ?_
  refine lv_bipush (v := 14) hx hb dX0_rememberHeld_20 (by decide) ?_
  refine va_mmin hx hb (by rw [hml, hl.1]) hown (hts _ w_ml_X0_33) (hts _ w_st_J9_min_7cf53) (hts _ w_in_J9) (hts _ w_co_J9_min_7cf53) (Nat.le_of_ble_eq_true rfl) (Nat.le_of_ble_eq_true rfl) (Nat.zero_le _) (Nat.zero_le _) dX0_rememberHeld_22 ?_
  refine va_put (D := D) (ci := 0) (v := .int (if 14 < ((T.1 3) + 1) then 14 else ((T.1 3) + 1))) (ty := .int) (C := RX0) (T := TX0) (N := 3) hx hb hts iw_X0 tyX0 tyX0_ok nmX0 hown hK hP (z_D cs A (stS T 4 (((T.1 4) + 1) - ((T.1 4) + 1) / 15 * 15)) hd) hS 6 rfl rfl 1 (by decide) (hts _ w_fl_X0_18) (fun _ h9 => h9) rfl (by decide +kernel) rfl rfl (Nat.le_of_ble_eq_true rfl) dX0_rememberHeld_25 (fun H locs hP _ hS => ?_)
  have hP : va_P D vwC (zW cs z A (stS (stS T 4 (((T.1 4) + 1) - ((T.1 4) + 1) / 15 * 15)) 3 (if 14 < ((T.1 3) + 1) then 14 else ((T.1 3) + 1)))) H := hP
  exact W.vret hx hb hr (fun t ht hW => ⟨⟨(stS (stS T 4 (((T.1 4) + 1) - ((T.1 4) + 1) / 15 * 15)) 3 (if 14 < ((T.1 3) + 1) then 14 else ((T.1 3) + 1))), rfl, hv, pw ht hP⟩, hS.F ht⟩) hS.2.2 dX0_rememberHeld_28 (hlocks := hlocks)
theorem hd_X5_clear : yX5_clear.cls ≠ "java/lang/invoke/MethodHandle" ∧ yX5_clear.cls ≠ "java/lang/invoke/VarHandle" ∧ (parseMethodDescriptor yX5_clear.desc).map (fun d => d.parameters.length) = some 0 := by decide +kernel
def sX5_clear (T : OF) : OF := (stS T 5 0)
set_option maxHeartbeats 4000000 in
set_option maxRecDepth 100000 in
theorem c_X5_clear (l : Launch) (D : va_G) (cs : Nat → ClassId) (z : Nat → Nat) (A : Nat → Nat → Nat) (T : OF) (hd : tD z A) : Met l yX5_clear (wc yX5_clear cX5_clear 1 none) ({ frames := 0, cells := 0, slots := 0, locals := 0 } : Room) (va_Pc [.ref (z 8)] (PE D cs (zW cs z A T))) (va_Qv (fun u : OF => u = (sX5_clear T)) (fun u t => va_P D vwC (zW cs z A u) t.heap) (zA z)) 0 0 (zA z) := by
  obtain ⟨v, hv⟩ : ∃ v, sX5_clear T = v := ⟨_, rfl⟩
  rw [hv]
  refine met_o (lv := [(0, .ref (z 8))]) (by decide) (Nat.le_of_ble_eq_true rfl) rfl ?_
  intro p e s m args below meth c ls hx hb hr hml hts hown hlocks hin hP hE hl
  have hown : s.vm.findClass RX5 = some m.cls := hown
  have hK := hE.1
  have hP : va_P D vwC (zW cs z A T) s.heap := hP
  have hS : va_S (zA z) s.heap s.heap [] := va_S.rf
  unfold sX5_clear at hv
  refine lv_aload_n hx hb dX5_clear_0 rfl (lv_at hl 0 rfl) ?_
  refine lv_iconst (v := 0) hx hb dX5_clear_1 (by decide) ?_
  refine va_put (D := D) (ci := 5) (v := .int 0) (ty := .int) (C := RX5) (T := TX5) (N := 2) hx hb hts iw_X5 tyX5 tyX5_ok nmX5 hown hK hP (z_D cs A T hd) hS 8 rfl rfl 1 (by decide) (hts _ w_fl_X5_18) (fun _ h9 => h9) rfl (by decide +kernel) rfl rfl (Nat.le_of_ble_eq_true rfl) dX5_clear_2 (fun H locs hP _ hS => ?_)
  have hP : va_P D vwC (zW cs z A (stS T 5 0)) H := hP
  exact W.vret hx hb hr (fun t ht hW => ⟨⟨(stS T 5 0), rfl, hv, pw ht hP⟩, hS.F ht⟩) hS.2.2 dX5_clear_5 (hlocks := hlocks)
theorem hd_X5_holds : yX5_holds.cls ≠ "java/lang/invoke/MethodHandle" ∧ yX5_holds.cls ≠ "java/lang/invoke/VarHandle" ∧ (parseMethodDescriptor yX5_holds.desc).map (fun d => d.parameters.length) = some 1 := by decide +kernel
def sX5_holds (T : OF) (p1 : Int32) : Bool := (sX7_isIn (T.1 5) p1)
set_option maxHeartbeats 4000000 in
set_option maxRecDepth 100000 in
theorem c_X5_holds (l : Launch) (D : va_G) (cs : Nat → ClassId) (z : Nat → Nat) (A : Nat → Nat → Nat) (T : OF) (p1 : Int32) : Met l yX5_holds (wc yX5_holds cX5_holds 2 (some .boolean)) ({ frames := 1, cells := 0, slots := 0, locals := 21 } : Room) (va_Pc [.ref (z 8), .int p1] (PE D cs (zW cs z A T))) (vp_Si (fun r9 => r9 = b2i (sX5_holds T p1))) 0 0 (fun _ => False) := by
  obtain ⟨v, hv⟩ : ∃ v, sX5_holds T p1 = v := ⟨_, rfl⟩
  rw [hv]
  refine met_o (lv := [(0, .ref (z 8)), (1, .int p1)]) (by decide) (Nat.le_of_ble_eq_true rfl) rfl ?_
  intro p e s m args below meth c ls hx hb hr hml hts hown hlocks hin hP hE hl
  have hown : s.vm.findClass RX5 = some m.cls := hown
  have hK := hE.1
  have hP : va_P D vwC (zW cs z A T) s.heap := hP
  unfold sX5_holds at hv
  refine lv_aload_n hx hb dX5_holds_0 rfl (lv_at hl 0 rfl) ?_
  refine va_get (D := D) (ci := 5) (v := .int (T.1 5)) (C := RX5) (T := TX5) (N := 2) hx hb hts iw_X5 hown hK hP 8 rfl rfl 1 (by decide) (hts _ w_fl_X5_18) (fun _ h9 => h9) rfl dX5_holds_1 ?_
  refine lv_iload_n hx hb dX5_holds_4 rfl (lv_at hl 1 rfl) ?_
  refine ro_i (b2i (sX7_isIn (T.1 5) p1)) (run_c (va_runSN (As := [.int (T.1 5), .int p1]) (rest := []) ⟨hx, hb, hml, hown, hts⟩ (c_X7_isIn l D cs (T.1 5) p1) ⟨va_cnB 2 hts (good_code w_co_X7_isIn) rfl rfl rfl (hE.2.1 ("TrueSheets$Slots", 22, yX7_isIn) (List.mem_of_getElem? (i := 1) rfl)) (hts _ w_in_X7) hd_X7_isIn ⟨Nat.le_of_ble_eq_true rfl, Nat.le_of_ble_eq_true rfl⟩, hts _ w_st_X7_isIn, trivial⟩ (pe_S (p_nil D _) hE) rfl rfl hl.1 rfl (lv_room (Nat.le_of_ble_eq_true rfl)) dX5_holds_5 ⟨Nat.zero_le _, Nat.zero_le _⟩)) ?_
  exact W.zret (ty := .boolean) (v := b2i (sX7_isIn (T.1 5) p1)) hx hb hr (b2i_nar (sX7_isIn (T.1 5) p1)) (fun t ht hW => ⟨b2i (sX7_isIn (T.1 5) p1), rfl, congrArg b2i hv, ht⟩) (fun _ h => nomatch h) dX5_holds_8 (hlocks := hlocks)
