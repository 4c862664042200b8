theorem hd_X7_isField : yX7_isField.cls ≠ "java/lang/invoke/MethodHandle" ∧ yX7_isField.cls ≠ "java/lang/invoke/VarHandle" ∧ (parseMethodDescriptor yX7_isField.desc).map (fun d => d.parameters.length) = some 1 := by decide +kernel
def sX7_isField (p1 : Int32) : Bool := (if p1 < 0 then false else (if 12 ≤ p1 then false else true))
theorem in_X7_isField {p : Int32} (h : sX7_isField p = true) : vp_in p 12 := by
  unfold sX7_isField at h
  by_cases h1 : p < 0
  · rw [if_pos h1] at h; exact nomatch h
  rw [if_neg h1] at h
  by_cases h3 : 12 ≤ p
  · rw [if_pos h3] at h; exact nomatch h
  exact vp_a rfl h1 h3
set_option maxHeartbeats 4000000 in
set_option maxRecDepth 100000 in
theorem c_X7_isField (l : Launch) (D : va_G) (cs : Nat → ClassId) (p1 : Int32) : Met l yX7_isField (wc yX7_isField cX7_isField 1 (some .boolean)) ({ frames := 0, cells := 0, slots := 0, locals := 0 } : Room) (va_Pc [.int p1] (PE D cs ([]))) (vp_Si (fun r9 => r9 = b2i (sX7_isField p1))) 0 0 (fun _ => False) := by
  obtain ⟨v, hv⟩ : ∃ v, sX7_isField p1 = v := ⟨_, rfl⟩
  rw [hv]
  refine met_o (lv := [(0, .int p1)]) (by decide) (Nat.le_of_ble_eq_true rfl) rfl ?_
  intro p e s m args below meth c ls hx hb hr hml hts hown hlocks hin hP hE hl
  have hown : s.vm.findClass RX7 = some m.cls := hown
  have hK := hE.1
  have hP : va_P D vwC ([]) s.heap := hP
  unfold sX7_isField at hv
  refine lv_iload_n hx hb dX7_isField_0 rfl (lv_at hl 0 rfl) ?_
  refine join_i (J := 15) (ls := ls) (rest := []) (b2i (if p1 < 0 then false else (if 12 ≤ p1 then false else true))) ?_ (fun hJ => ?_)
  · exact W.zret (ty := .boolean) (v := b2i (if p1 < 0 then false else (if 12 ≤ p1 then false else true))) hx hb hr (b2i_nar (if p1 < 0 then false else (if 12 ≤ p1 then false else true))) (fun t ht hW => ⟨b2i (if p1 < 0 then false else (if 12 ≤ p1 then false else true)), rfl, congrArg b2i hv, ht⟩) (fun _ h => nomatch h) dX7_isField_15 (hlocks := hlocks)
  · refine lv_if_lt (tgt := 14) hx hb dX7_isField_1 (by decide) (fun c1 => ?_) (fun c1 => ?_)
    · refine lv_iconst (v := 0) hx hb dX7_isField_14 (by decide) ?_
      exact hJ _ (congrArg b2i ((if_pos c1).trans rfl))
    · refine lv_iload_n hx hb dX7_isField_4 rfl (lv_at hl 0 rfl) ?_
      refine lv_bipush (v := 12) hx hb dX7_isField_5 (by decide) ?_
      refine lv_icmp_ge (tgt := 14) hx hb dX7_isField_7 (by decide) (fun c7 => ?_) (fun c7 => ?_)
      · refine lv_iconst (v := 0) hx hb dX7_isField_14 (by decide) ?_
        exact hJ _ (congrArg b2i ((if_neg c1).trans ((if_pos c7).trans rfl)))
      · refine lv_iconst (v := 1) hx hb dX7_isField_10 (by decide) ?_
        refine lv_goto (tgt := 15) hx hb dX7_isField_11 (by decide) ?_
        exact hJ _ (congrArg b2i ((if_neg c1).trans ((if_neg c7).trans rfl)))
theorem hd_X7_isCloud : yX7_isCloud.cls ≠ "java/lang/invoke/MethodHandle" ∧ yX7_isCloud.cls ≠ "java/lang/invoke/VarHandle" ∧ (parseMethodDescriptor yX7_isCloud.desc).map (fun d => d.parameters.length) = some 1 := by decide +kernel
def sX7_isCloud (p1 : Int32) : Bool := (if p1 < 1 then false else (if 4095 < p1 then false else true))
set_option maxHeartbeats 4000000 in
set_option maxRecDepth 100000 in
theorem c_X7_isCloud (l : Launch) (D : va_G) (cs : Nat → ClassId) (p1 : Int32) : Met l yX7_isCloud (wc yX7_isCloud cX7_isCloud 1 (some .boolean)) ({ frames := 0, cells := 0, slots := 0, locals := 0 } : Room) (va_Pc [.int p1] (PE D cs ([]))) (vp_Si (fun r9 => r9 = b2i (sX7_isCloud p1))) 0 0 (fun _ => False) := by
  obtain ⟨v, hv⟩ : ∃ v, sX7_isCloud p1 = v := ⟨_, rfl⟩
  rw [hv]
  refine met_o (lv := [(0, .int p1)]) (by decide) (Nat.le_of_ble_eq_true rfl) rfl ?_
  intro p e s m args below meth c ls hx hb hr hml hts hown hlocks hin hP hE hl
  have hown : s.vm.findClass RX7 = some m.cls := hown
  have hK := hE.1
  have hP : va_P D vwC ([]) s.heap := hP
  unfold sX7_isCloud at hv
  refine lv_iload_n hx hb dX7_isCloud_0 rfl (lv_at hl 0 rfl) ?_
  refine lv_iconst (v := 1) hx hb dX7_isCloud_1 (by decide) ?_
  refine join_i (J := 17) (ls := ls) (rest := []) (b2i (if p1 < 1 then false else (if 4095 < p1 then false else true))) ?_ (fun hJ => ?_)
  · exact W.zret (ty := .boolean) (v := b2i (if p1 < 1 then false else (if 4095 < p1 then false else true))) hx hb hr (b2i_nar (if p1 < 1 then false else (if 4095 < p1 then false else true))) (fun t ht hW => ⟨b2i (if p1 < 1 then false else (if 4095 < p1 then false else true)), rfl, congrArg b2i hv, ht⟩) (fun _ h => nomatch h) dX7_isCloud_17 (hlocks := hlocks)
  · refine lv_icmp_lt (tgt := 16) hx hb dX7_isCloud_2 (by decide) (fun c2 => ?_) (fun c2 => ?_)
    · refine lv_iconst (v := 0) hx hb dX7_isCloud_16 (by decide) ?_
      exact hJ _ (congrArg b2i ((if_pos c2).trans rfl))
    · refine lv_iload_n hx hb dX7_isCloud_5 rfl (lv_at hl 0 rfl) ?_
      refine lv_sipush (v := 4095) hx hb dX7_isCloud_6 (by decide) ?_
      refine lv_icmp_gt (tgt := 16) hx hb dX7_isCloud_9 (by decide) (fun c9 => ?_) (fun c9 => ?_)
      · refine lv_iconst (v := 0) hx hb dX7_isCloud_16 (by decide) ?_
        exact hJ _ (congrArg b2i ((if_neg c2).trans ((if_pos c9).trans rfl)))
      · refine lv_iconst (v := 1) hx hb dX7_isCloud_12 (by decide) ?_
        refine lv_goto (tgt := 17) hx hb dX7_isCloud_13 (by decide) ?_
        exact hJ _ (congrArg b2i ((if_neg c2).trans ((if_neg c9).trans rfl)))
theorem hd_X7_isSite : yX7_isSite.cls ≠ "java/lang/invoke/MethodHandle" ∧ yX7_isSite.cls ≠ "java/lang/invoke/VarHandle" ∧ (parseMethodDescriptor yX7_isSite.desc).map (fun d => d.parameters.length) = some 1 := by decide +kernel
def sX7_isSite (p1 : Int32) : Bool := (if p1 < 0 then false else (if 4 ≤ p1 then false else true))
set_option maxHeartbeats 4000000 in
set_option maxRecDepth 100000 in
theorem c_X7_isSite (l : Launch) (D : va_G) (cs : Nat → ClassId) (p1 : Int32) : Met l yX7_isSite (wc yX7_isSite cX7_isSite 1 (some .boolean)) ({ frames := 0, cells := 0, slots := 0, locals := 0 } : Room) (va_Pc [.int p1] (PE D cs ([]))) (vp_Si (fun r9 => r9 = b2i (sX7_isSite p1))) 0 0 (fun _ => False) := by
  obtain ⟨v, hv⟩ : ∃ v, sX7_isSite p1 = v := ⟨_, rfl⟩
  rw [hv]
  refine met_o (lv := [(0, .int p1)]) (by decide) (Nat.le_of_ble_eq_true rfl) rfl ?_
  intro p e s m args below meth c ls hx hb hr hml hts hown hlocks hin hP hE hl
  have hown : s.vm.findClass RX7 = some m.cls := hown
  have hK := hE.1
  have hP : va_P D vwC ([]) s.heap := hP
  unfold sX7_isSite at hv
  refine lv_iload_n hx hb dX7_isSite_0 rfl (lv_at hl 0 rfl) ?_
  refine join_i (J := 14) (ls := ls) (rest := []) (b2i (if p1 < 0 then false else (if 4 ≤ p1 then false else true))) ?_ (fun hJ => ?_)
  · exact W.zret (ty := .boolean) (v := b2i (if p1 < 0 then false else (if 4 ≤ p1 then false else true))) hx hb hr (b2i_nar (if p1 < 0 then false else (if 4 ≤ p1 then false else true))) (fun t ht hW => ⟨b2i (if p1 < 0 then false else (if 4 ≤ p1 then false else true)), rfl, congrArg b2i hv, ht⟩) (fun _ h => nomatch h) dX7_isSite_14 (hlocks := hlocks)
  · refine lv_if_lt (tgt := 13) hx hb dX7_isSite_1 (by decide) (fun c1 => ?_) (fun c1 => ?_)
    · refine lv_iconst (v := 0) hx hb dX7_isSite_13 (by decide) ?_
      exact hJ _ (congrArg b2i ((if_pos c1).trans rfl))
    · refine lv_iload_n hx hb dX7_isSite_4 rfl (lv_at hl 0 rfl) ?_
      refine lv_iconst (v := 4) hx hb dX7_isSite_5 (by decide) ?_
      refine lv_icmp_ge (tgt := 13) hx hb dX7_isSite_6 (by decide) (fun c6 => ?_) (fun c6 => ?_)
      · refine lv_iconst (v := 0) hx hb dX7_isSite_13 (by decide) ?_
        exact hJ _ (congrArg b2i ((if_neg c1).trans ((if_pos c6).trans rfl)))
      · refine lv_iconst (v := 1) hx hb dX7_isSite_9 (by decide) ?_
        refine lv_goto (tgt := 14) hx hb dX7_isSite_10 (by decide) ?_
        exact hJ _ (congrArg b2i ((if_neg c1).trans ((if_neg c6).trans rfl)))
theorem hd_X7_isDays : yX7_isDays.cls ≠ "java/lang/invoke/MethodHandle" ∧ yX7_isDays.cls ≠ "java/lang/invoke/VarHandle" ∧ (parseMethodDescriptor yX7_isDays.desc).map (fun d => d.parameters.length) = some 1 := by decide +kernel
def sX7_isDays (p1 : Int32) : Bool := (if p1 < 1 then false else (if 30 < p1 then false else true))
set_option maxHeartbeats 4000000 in
set_option maxRecDepth 100000 in
theorem c_X7_isDays (l : Launch) (D : va_G) (cs : Nat → ClassId) (p1 : Int32) : Met l yX7_isDays (wc yX7_isDays cX7_isDays 1 (some .boolean)) ({ frames := 0, cells := 0, slots := 0, locals := 0 } : Room) (va_Pc [.int p1] (PE D cs ([]))) (vp_Si (fun r9 => r9 = b2i (sX7_isDays p1))) 0 0 (fun _ => False) := by
  obtain ⟨v, hv⟩ : ∃ v, sX7_isDays p1 = v := ⟨_, rfl⟩
  rw [hv]
  refine met_o (lv := [(0, .int p1)]) (by decide) (Nat.le_of_ble_eq_true rfl) rfl ?_
  intro p e s m args below meth c ls hx hb hr hml hts hown hlocks hin hP hE hl
  have hown : s.vm.findClass RX7 = some m.cls := hown
  have hK := hE.1
  have hP : va_P D vwC ([]) s.heap := hP
  unfold sX7_isDays at hv
  refine lv_iload_n hx hb dX7_isDays_0 rfl (lv_at hl 0 rfl) ?_
  refine lv_iconst (v := 1) hx hb dX7_isDays_1 (by decide) ?_
  refine join_i (J := 16) (ls := ls) (rest := []) (b2i (if p1 < 1 then false else (if 30 < p1 then false else true))) ?_ (fun hJ => ?_)
  · exact W.zret (ty := .boolean) (v := b2i (if p1 < 1 then false else (if 30 < p1 then false else true))) hx hb hr (b2i_nar (if p1 < 1 then false else (if 30 < p1 then false else true))) (fun t ht hW => ⟨b2i (if p1 < 1 then false else (if 30 < p1 then false else true)), rfl, congrArg b2i hv, ht⟩) (fun _ h => nomatch h) dX7_isDays_16 (hlocks := hlocks)
  · refine lv_icmp_lt (tgt := 15) hx hb dX7_isDays_2 (by decide) (fun c2 => ?_) (fun c2 => ?_)
    · refine lv_iconst (v := 0) hx hb dX7_isDays_15 (by decide) ?_
      exact hJ _ (congrArg b2i ((if_pos c2).trans rfl))
    · refine lv_iload_n hx hb dX7_isDays_5 rfl (lv_at hl 0 rfl) ?_
      refine lv_bipush (v := 30) hx hb dX7_isDays_6 (by decide) ?_
      refine lv_icmp_gt (tgt := 15) hx hb dX7_isDays_8 (by decide) (fun c8 => ?_) (fun c8 => ?_)
      · refine lv_iconst (v := 0) hx hb dX7_isDays_15 (by decide) ?_
        exact hJ _ (congrArg b2i ((if_neg c2).trans ((if_pos c8).trans rfl)))
      · refine lv_iconst (v := 1) hx hb dX7_isDays_11 (by decide) ?_
        refine lv_goto (tgt := 16) hx hb dX7_isDays_12 (by decide) ?_
        exact hJ _ (congrArg b2i ((if_neg c2).trans ((if_neg c8).trans rfl)))
theorem hd_X7_isSetting : yX7_isSetting.cls ≠ "java/lang/invoke/MethodHandle" ∧ yX7_isSetting.cls ≠ "java/lang/invoke/VarHandle" ∧ (parseMethodDescriptor yX7_isSetting.desc).map (fun d => d.parameters.length) = some 1 := by decide +kernel
def sX7_isSetting (p1 : Int32) : Bool := (if p1 < 0 then false else (if 3 ≤ p1 then false else true))
theorem in_X7_isSetting {p : Int32} (h : sX7_isSetting p = true) : vp_in p 3 := by
  unfold sX7_isSetting at h
  by_cases h1 : p < 0
  · rw [if_pos h1] at h; exact nomatch h
  rw [if_neg h1] at h
  by_cases h3 : 3 ≤ p
  · rw [if_pos h3] at h; exact nomatch h
  exact vp_a rfl h1 h3
set_option maxHeartbeats 4000000 in
set_option maxRecDepth 100000 in
theorem c_X7_isSetting (l : Launch) (D : va_G) (cs : Nat → ClassId) (p1 : Int32) : Met l yX7_isSetting (wc yX7_isSetting cX7_isSetting 1 (some .boolean)) ({ frames := 0, cells := 0, slots := 0, locals := 0 } : Room) (va_Pc [.int p1] (PE D cs ([]))) (vp_Si (fun r9 => r9 = b2i (sX7_isSetting p1))) 0 0 (fun _ => False) := by
  obtain ⟨v, hv⟩ : ∃ v, sX7_isSetting p1 = v := ⟨_, rfl⟩
  rw [hv]
  refine met_o (lv := [(0, .int p1)]) (by decide) (Nat.le_of_ble_eq_true rfl) rfl ?_
  intro p e s m args below meth c ls hx hb hr hml hts hown hlocks hin hP hE hl
  have hown : s.vm.findClass RX7 = some m.cls := hown
  have hK := hE.1
  have hP : va_P D vwC ([]) s.heap := hP
  unfold sX7_isSetting at hv
  refine lv_iload_n hx hb dX7_isSetting_0 rfl (lv_at hl 0 rfl) ?_
  refine join_i (J := 14) (ls := ls) (rest := []) (b2i (if p1 < 0 then false else (if 3 ≤ p1 then false else true))) ?_ (fun hJ => ?_)
  · exact W.zret (ty := .boolean) (v := b2i (if p1 < 0 then false else (if 3 ≤ p1 then false else true))) hx hb hr (b2i_nar (if p1 < 0 then false else (if 3 ≤ p1 then false else true))) (fun t ht hW => ⟨b2i (if p1 < 0 then false else (if 3 ≤ p1 then false else true)), rfl, congrArg b2i hv, ht⟩) (fun _ h => nomatch h) dX7_isSetting_14 (hlocks := hlocks)
  · refine lv_if_lt (tgt := 13) hx hb dX7_isSetting_1 (by decide) (fun c1 => ?_) (fun c1 => ?_)
    · refine lv_iconst (v := 0) hx hb dX7_isSetting_13 (by decide) ?_
      exact hJ _ (congrArg b2i ((if_pos c1).trans rfl))
    · refine lv_iload_n hx hb dX7_isSetting_4 rfl (lv_at hl 0 rfl) ?_
      refine lv_iconst (v := 3) hx hb dX7_isSetting_5 (by decide) ?_
      refine lv_icmp_ge (tgt := 13) hx hb dX7_isSetting_6 (by decide) (fun c6 => ?_) (fun c6 => ?_)
      · refine lv_iconst (v := 0) hx hb dX7_isSetting_13 (by decide) ?_
        exact hJ _ (congrArg b2i ((if_neg c1).trans ((if_pos c6).trans rfl)))
      · refine lv_iconst (v := 1) hx hb dX7_isSetting_9 (by decide) ?_
        refine lv_goto (tgt := 14) hx hb dX7_isSetting_10 (by decide) ?_
        exact hJ _ (congrArg b2i ((if_neg c1).trans ((if_neg c6).trans rfl)))
theorem hd_X7_isSlot : yX7_isSlot.cls ≠ "java/lang/invoke/MethodHandle" ∧ yX7_isSlot.cls ≠ "java/lang/invoke/VarHandle" ∧ (parseMethodDescriptor yX7_isSlot.desc).map (fun d => d.parameters.length) = some 1 := by decide +kernel
def sX7_isSlot (p1 : Int32) : Bool := (if p1 < 0 then false else (if 2 ≤ p1 then false else true))
theorem in_X7_isSlot {p : Int32} (h : sX7_isSlot p = true) : vp_in p 2 := by
  unfold sX7_isSlot at h
  by_cases h1 : p < 0
  · rw [if_pos h1] at h; exact nomatch h
  rw [if_neg h1] at h
  by_cases h3 : 2 ≤ p
  · rw [if_pos h3] at h; exact nomatch h
  exact vp_a rfl h1 h3
set_option maxHeartbeats 4000000 in
set_option maxRecDepth 100000 in
theorem c_X7_isSlot (l : Launch) (D : va_G) (cs : Nat → ClassId) (p1 : Int32) : Met l yX7_isSlot (wc yX7_isSlot cX7_isSlot 1 (some .boolean)) ({ frames := 0, cells := 0, slots := 0, locals := 0 } : Room) (va_Pc [.int p1] (PE D cs ([]))) (vp_Si (fun r9 => r9 = b2i (sX7_isSlot p1))) 0 0 (fun _ => False) := by
  obtain ⟨v, hv⟩ : ∃ v, sX7_isSlot p1 = v := ⟨_, rfl⟩
  rw [hv]
  refine met_o (lv := [(0, .int p1)]) (by decide) (Nat.le_of_ble_eq_true rfl) rfl ?_
  intro p e s m args below meth c ls hx hb hr hml hts hown hlocks hin hP hE hl
  have hown : s.vm.findClass RX7 = some m.cls := hown
  have hK := hE.1
  have hP : va_P D vwC ([]) s.heap := hP
  unfold sX7_isSlot at hv
  refine lv_iload_n hx hb dX7_isSlot_0 rfl (lv_at hl 0 rfl) ?_
  refine join_i (J := 14) (ls := ls) (rest := []) (b2i (if p1 < 0 then false else (if 2 ≤ p1 then false else true))) ?_ (fun hJ => ?_)
  · exact W.zret (ty := .boolean) (v := b2i (if p1 < 0 then false else (if 2 ≤ p1 then false else true))) hx hb hr (b2i_nar (if p1 < 0 then false else (if 2 ≤ p1 then false else true))) (fun t ht hW => ⟨b2i (if p1 < 0 then false else (if 2 ≤ p1 then false else true)), rfl, congrArg b2i hv, ht⟩) (fun _ h => nomatch h) dX7_isSlot_14 (hlocks := hlocks)
  · refine lv_if_lt (tgt := 13) hx hb dX7_isSlot_1 (by decide) (fun c1 => ?_) (fun c1 => ?_)
    · refine lv_iconst (v := 0) hx hb dX7_isSlot_13 (by decide) ?_
      exact hJ _ (congrArg b2i ((if_pos c1).trans rfl))
    · refine lv_iload_n hx hb dX7_isSlot_4 rfl (lv_at hl 0 rfl) ?_
      refine lv_iconst (v := 2) hx hb dX7_isSlot_5 (by decide) ?_
      refine lv_icmp_ge (tgt := 13) hx hb dX7_isSlot_6 (by decide) (fun c6 => ?_) (fun c6 => ?_)
      · refine lv_iconst (v := 0) hx hb dX7_isSlot_13 (by decide) ?_
        exact hJ _ (congrArg b2i ((if_neg c1).trans ((if_pos c6).trans rfl)))
      · refine lv_iconst (v := 1) hx hb dX7_isSlot_9 (by decide) ?_
        refine lv_goto (tgt := 14) hx hb dX7_isSlot_10 (by decide) ?_
        exact hJ _ (congrArg b2i ((if_neg c1).trans ((if_neg c6).trans rfl)))
theorem hd_X7_isIn : yX7_isIn.cls ≠ "java/lang/invoke/MethodHandle" ∧ yX7_isIn.cls ≠ "java/lang/invoke/VarHandle" ∧ (parseMethodDescriptor yX7_isIn.desc).map (fun d => d.parameters.length) = some 2 := by decide +kernel
def sX7_isIn (p1 : Int32) (p2 : Int32) : Bool := (if ((p1 >>> (p2 &&& 31)) &&& 1) = 0 then false else true)
set_option maxHeartbeats 4000000 in
set_option maxRecDepth 100000 in
theorem c_X7_isIn (l : Launch) (D : va_G) (cs : Nat → ClassId) (p1 : Int32) (p2 : Int32) : Met l yX7_isIn (wc yX7_isIn cX7_isIn 2 (some .boolean)) ({ frames := 0, cells := 0, slots := 0, locals := 0 } : Room) (va_Pc [.int p1, .int p2] (PE D cs ([]))) (vp_Si (fun r9 => r9 = b2i (sX7_isIn p1 p2))) 0 0 (fun _ => False) := by
  obtain ⟨v, hv⟩ : ∃ v, sX7_isIn p1 p2 = v := ⟨_, rfl⟩
  rw [hv]
  refine met_o (lv := [(0, .int p1), (1, .int p2)]) (by decide) (Nat.le_of_ble_eq_true rfl) rfl ?_
  intro p e s m args below meth c ls hx hb hr hml hts hown hlocks hin hP hE hl
  have hown : s.vm.findClass RX7 = some m.cls := hown
  have hK := hE.1
  have hP : va_P D vwC ([]) s.heap := hP
  unfold sX7_isIn at hv
  refine lv_iload_n hx hb dX7_isIn_0 rfl (lv_at hl 0 rfl) ?_
  refine lv_iload_n hx hb dX7_isIn_1 rfl (lv_at hl 1 rfl) ?_
  refine lv_ishr hx hb dX7_isIn_2 ?_
  refine lv_iconst (v := 1) hx hb dX7_isIn_3 (by decide) ?_
  refine lv_iand hx hb dX7_isIn_4 ?_
  refine join_i (J := 13) (ls := ls) (rest := []) (b2i (if ((p1 >>> (p2 &&& 31)) &&& 1) = 0 then false else true)) ?_ (fun hJ => ?_)
  · exact W.zret (ty := .boolean) (v := b2i (if ((p1 >>> (p2 &&& 31)) &&& 1) = 0 then false else true)) hx hb hr (b2i_nar (if ((p1 >>> (p2 &&& 31)) &&& 1) = 0 then false else true)) (fun t ht hW => ⟨b2i (if ((p1 >>> (p2 &&& 31)) &&& 1) = 0 then false else true), rfl, congrArg b2i hv, ht⟩) (fun _ h => nomatch h) dX7_isIn_13 (hlocks := hlocks)
  · refine lv_if_eq (tgt := 12) hx hb dX7_isIn_5 (by decide) (fun c5 => ?_) (fun c5 => ?_)
    · refine lv_iconst (v := 0) hx hb dX7_isIn_12 (by decide) ?_
      exact hJ _ (congrArg b2i ((if_pos c5).trans rfl))
    · refine lv_iconst (v := 1) hx hb dX7_isIn_8 (by decide) ?_
      refine lv_goto (tgt := 13) hx hb dX7_isIn_9 (by decide) ?_
      exact hJ _ (congrArg b2i ((if_neg c5).trans rfl))
theorem hd_J6_bitCount_0f7a4 : yJ6_bitCount_0f7a4.cls ≠ "java/lang/invoke/MethodHandle" ∧ yJ6_bitCount_0f7a4.cls ≠ "java/lang/invoke/VarHandle" ∧ (parseMethodDescriptor yJ6_bitCount_0f7a4.desc).map (fun d => d.parameters.length) = some 1 := by decide +kernel
def sJ6_bitCount_0f7a4 (p1 : Int32) : Int32 := (((((((p1 - (((p1.toUInt32 >>> ((1 : Int32).toUInt32 &&& Int32.toUInt32 31)).toInt32) &&& 1431655765)) &&& 858993459) + ((((p1 - (((p1.toUInt32 >>> ((1 : Int32).toUInt32 &&& Int32.toUInt32 31)).toInt32) &&& 1431655765)).toUInt32 >>> ((2 : Int32).toUInt32 &&& Int32.toUInt32 31)).toInt32) &&& 858993459)) + (((((p1 - (((p1.toUInt32 >>> ((1 : Int32).toUInt32 &&& Int32.toUInt32 31)).toInt32) &&& 1431655765)) &&& 858993459) + ((((p1 - (((p1.toUInt32 >>> ((1 : Int32).toUInt32 &&& Int32.toUInt32 31)).toInt32) &&& 1431655765)).toUInt32 >>> ((2 : Int32).toUInt32 &&& Int32.toUInt32 31)).toInt32) &&& 858993459)).toUInt32 >>> ((4 : Int32).toUInt32 &&& Int32.toUInt32 31)).toInt32)) &&& 252645135) + (((((((p1 - (((p1.toUInt32 >>> ((1 : Int32).toUInt32 &&& Int32.toUInt32 31)).toInt32) &&& 1431655765)) &&& 858993459) + ((((p1 - (((p1.toUInt32 >>> ((1 : Int32).toUInt32 &&& Int32.toUInt32 31)).toInt32) &&& 1431655765)).toUInt32 >>> ((2 : Int32).toUInt32 &&& Int32.toUInt32 31)).toInt32) &&& 858993459)) + (((((p1 - (((p1.toUInt32 >>> ((1 : Int32).toUInt32 &&& Int32.toUInt32 31)).toInt32) &&& 1431655765)) &&& 858993459) + ((((p1 - (((p1.toUInt32 >>> ((1 : Int32).toUInt32 &&& Int32.toUInt32 31)).toInt32) &&& 1431655765)).toUInt32 >>> ((2 : Int32).toUInt32 &&& Int32.toUInt32 31)).toInt32) &&& 858993459)).toUInt32 >>> ((4 : Int32).toUInt32 &&& Int32.toUInt32 31)).toInt32)) &&& 252645135).toUInt32 >>> ((8 : Int32).toUInt32 &&& Int32.toUInt32 31)).toInt32)) + ((((((((p1 - (((p1.toUInt32 >>> ((1 : Int32).toUInt32 &&& Int32.toUInt32 31)).toInt32) &&& 1431655765)) &&& 858993459) + ((((p1 - (((p1.toUInt32 >>> ((1 : Int32).toUInt32 &&& Int32.toUInt32 31)).toInt32) &&& 1431655765)).toUInt32 >>> ((2 : Int32).toUInt32 &&& Int32.toUInt32 31)).toInt32) &&& 858993459)) + (((((p1 - (((p1.toUInt32 >>> ((1 : Int32).toUInt32 &&& Int32.toUInt32 31)).toInt32) &&& 1431655765)) &&& 858993459) + ((((p1 - (((p1.toUInt32 >>> ((1 : Int32).toUInt32 &&& Int32.toUInt32 31)).toInt32) &&& 1431655765)).toUInt32 >>> ((2 : Int32).toUInt32 &&& Int32.toUInt32 31)).toInt32) &&& 858993459)).toUInt32 >>> ((4 : Int32).toUInt32 &&& Int32.toUInt32 31)).toInt32)) &&& 252645135) + (((((((p1 - (((p1.toUInt32 >>> ((1 : Int32).toUInt32 &&& Int32.toUInt32 31)).toInt32) &&& 1431655765)) &&& 858993459) + ((((p1 - (((p1.toUInt32 >>> ((1 : Int32).toUInt32 &&& Int32.toUInt32 31)).toInt32) &&& 1431655765)).toUInt32 >>> ((2 : Int32).toUInt32 &&& Int32.toUInt32 31)).toInt32) &&& 858993459)) + (((((p1 - (((p1.toUInt32 >>> ((1 : Int32).toUInt32 &&& Int32.toUInt32 31)).toInt32) &&& 1431655765)) &&& 858993459) + ((((p1 - (((p1.toUInt32 >>> ((1 : Int32).toUInt32 &&& Int32.toUInt32 31)).toInt32) &&& 1431655765)).toUInt32 >>> ((2 : Int32).toUInt32 &&& Int32.toUInt32 31)).toInt32) &&& 858993459)).toUInt32 >>> ((4 : Int32).toUInt32 &&& Int32.toUInt32 31)).toInt32)) &&& 252645135).toUInt32 >>> ((8 : Int32).toUInt32 &&& Int32.toUInt32 31)).toInt32)).toUInt32 >>> ((16 : Int32).toUInt32 &&& Int32.toUInt32 31)).toInt32)) &&& 63
set_option maxHeartbeats 4000000 in
set_option maxRecDepth 100000 in
theorem c_J6_bitCount_0f7a4 (l : Launch) (D : va_G) (cs : Nat → ClassId) (p1 : Int32) : Met l yJ6_bitCount_0f7a4 (wc yJ6_bitCount_0f7a4 cJ6_bitCount_0f7a4 1 (some .int)) ({ frames := 0, cells := 0, slots := 0, locals := 0 } : Room) (va_Pc [.int p1] (PE D cs ([]))) (vp_Si (fun r9 => r9 = (sJ6_bitCount_0f7a4 p1))) 0 0 (fun _ => False) := by
  obtain ⟨v, hv⟩ : ∃ v, sJ6_bitCount_0f7a4 p1 = v := ⟨_, rfl⟩
  rw [hv]
  refine met_o (lv := [(0, .int p1)]) (by decide) (Nat.le_of_ble_eq_true rfl) rfl ?_
  intro p e s m args below meth c ls hx hb hr hml hts hown hlocks hin hP hE hl
  have hown : s.vm.findClass RJ6 = some m.cls := hown
  have hK := hE.1
  have hP : va_P D vwC ([]) s.heap := hP
  unfold sJ6_bitCount_0f7a4 at hv
  refine lv_iload_n hx hb dJ6_bitCount_0f7a4_0 rfl (lv_at hl 0 rfl) ?_
  refine lv_iload_n hx hb dJ6_bitCount_0f7a4_1 rfl (lv_at hl 0 rfl) ?_
  refine lv_iconst (v := 1) hx hb dJ6_bitCount_0f7a4_2 (by decide) ?_
  refine lv_iushr hx hb dJ6_bitCount_0f7a4_3 rfl ?_
  refine lv_ldcw (v := 1431655765) hx hb hown (hts _ w_cn_J6_265) dJ6_bitCount_0f7a4_4 ?_
  refine lv_iand hx hb dJ6_bitCount_0f7a4_7 ?_
  refine lv_isub hx hb dJ6_bitCount_0f7a4_8 ?_
  refine lv_istore_n (lv' := [(0, .int (p1 - (((p1.toUInt32 >>> ((1 : Int32).toUInt32 &&& Int32.toUInt32 31)).toInt32) &&& 1431655765)))]) hx hb dJ6_bitCount_0f7a4_9 rfl hl (by decide) rfl (fun ls hl => ?_)
  refine lv_iload_n hx hb dJ6_bitCount_0f7a4_10 rfl (lv_at hl 0 rfl) ?_
  refine lv_ldcw (v := 858993459) hx hb hown (hts _ w_cn_J6_266) dJ6_bitCount_0f7a4_11 ?_
  refine lv_iand hx hb dJ6_bitCount_0f7a4_14 ?_
  refine lv_iload_n hx hb dJ6_bitCount_0f7a4_15 rfl (lv_at hl 0 rfl) ?_
  refine lv_iconst (v := 2) hx hb dJ6_bitCount_0f7a4_16 (by decide) ?_
  refine lv_iushr hx hb dJ6_bitCount_0f7a4_17 rfl ?_
  refine lv_ldcw (v := 858993459) hx hb hown (hts _ w_cn_J6_266) dJ6_bitCount_0f7a4_18 ?_
  refine lv_iand hx hb dJ6_bitCount_0f7a4_21 ?_
  refine lv_iadd hx hb dJ6_bitCount_0f7a4_22 ?_
  refine lv_istore_n (lv' := [(0, .int (((p1 - (((p1.toUInt32 >>> ((1 : Int32).toUInt32 &&& Int32.toUInt32 31)).toInt32) &&& 1431655765)) &&& 858993459) + ((((p1 - (((p1.toUInt32 >>> ((1 : Int32).toUInt32 &&& Int32.toUInt32 31)).toInt32) &&& 1431655765)).toUInt32 >>> ((2 : Int32).toUInt32 &&& Int32.toUInt32 31)).toInt32) &&& 858993459)))]) hx hb dJ6_bitCount_0f7a4_23 rfl hl (by decide) rfl (fun ls hl => ?_)
  refine lv_iload_n hx hb dJ6_bitCount_0f7a4_24 rfl (lv_at hl 0 rfl) ?_
  refine lv_iload_n hx hb dJ6_bitCount_0f7a4_25 rfl (lv_at hl 0 rfl) ?_
  refine lv_iconst (v := 4) hx hb dJ6_bitCount_0f7a4_26 (by decide) ?_
  refine lv_iushr hx hb dJ6_bitCount_0f7a4_27 rfl ?_
  refine lv_iadd hx hb dJ6_bitCount_0f7a4_28 ?_
  refine lv_ldcw (v := 252645135) hx hb hown (hts _ w_cn_J6_267) dJ6_bitCount_0f7a4_29 ?_
  refine lv_iand hx hb dJ6_bitCount_0f7a4_32 ?_
  refine lv_istore_n (lv' := [(0, .int (((((p1 - (((p1.toUInt32 >>> ((1 : Int32).toUInt32 &&& Int32.toUInt32 31)).toInt32) &&& 1431655765)) &&& 858993459) + ((((p1 - (((p1.toUInt32 >>> ((1 : Int32).toUInt32 &&& Int32.toUInt32 31)).toInt32) &&& 1431655765)).toUInt32 >>> ((2 : Int32).toUInt32 &&& Int32.toUInt32 31)).toInt32) &&& 858993459)) + (((((p1 - (((p1.toUInt32 >>> ((1 : Int32).toUInt32 &&& Int32.toUInt32 31)).toInt32) &&& 1431655765)) &&& 858993459) + ((((p1 - (((p1.toUInt32 >>> ((1 : Int32).toUInt32 &&& Int32.toUInt32 31)).toInt32) &&& 1431655765)).toUInt32 >>> ((2 : Int32).toUInt32 &&& Int32.toUInt32 31)).toInt32) &&& 858993459)).toUInt32 >>> ((4 : Int32).toUInt32 &&& Int32.toUInt32 31)).toInt32)) &&& 252645135))]) hx hb dJ6_bitCount_0f7a4_33 rfl hl (by decide) rfl (fun ls hl => ?_)
  refine lv_iload_n hx hb dJ6_bitCount_0f7a4_34 rfl (lv_at hl 0 rfl) ?_
  refine lv_iload_n hx hb dJ6_bitCount_0f7a4_35 rfl (lv_at hl 0 rfl) ?_
  refine lv_bipush (v := 8) hx hb dJ6_bitCount_0f7a4_36 (by decide) ?_
  refine lv_iushr hx hb dJ6_bitCount_0f7a4_38 rfl ?_
  refine lv_iadd hx hb dJ6_bitCount_0f7a4_39 ?_
  refine lv_istore_n (lv' := [(0, .int ((((((p1 - (((p1.toUInt32 >>> ((1 : Int32).toUInt32 &&& Int32.toUInt32 31)).toInt32) &&& 1431655765)) &&& 858993459) + ((((p1 - (((p1.toUInt32 >>> ((1 : Int32).toUInt32 &&& Int32.toUInt32 31)).toInt32) &&& 1431655765)).toUInt32 >>> ((2 : Int32).toUInt32 &&& Int32.toUInt32 31)).toInt32) &&& 858993459)) + (((((p1 - (((p1.toUInt32 >>> ((1 : Int32).toUInt32 &&& Int32.toUInt32 31)).toInt32) &&& 1431655765)) &&& 858993459) + ((((p1 - (((p1.toUInt32 >>> ((1 : Int32).toUInt32 &&& Int32.toUInt32 31)).toInt32) &&& 1431655765)).toUInt32 >>> ((2 : Int32).toUInt32 &&& Int32.toUInt32 31)).toInt32) &&& 858993459)).toUInt32 >>> ((4 : Int32).toUInt32 &&& Int32.toUInt32 31)).toInt32)) &&& 252645135) + (((((((p1 - (((p1.toUInt32 >>> ((1 : Int32).toUInt32 &&& Int32.toUInt32 31)).toInt32) &&& 1431655765)) &&& 858993459) + ((((p1 - (((p1.toUInt32 >>> ((1 : Int32).toUInt32 &&& Int32.toUInt32 31)).toInt32) &&& 1431655765)).toUInt32 >>> ((2 : Int32).toUInt32 &&& Int32.toUInt32 31)).toInt32) &&& 858993459)) + (((((p1 - (((p1.toUInt32 >>> ((1 : Int32).toUInt32 &&& Int32.toUInt32 31)).toInt32) &&& 1431655765)) &&& 858993459) + ((((p1 - (((p1.toUInt32 >>> ((1 : Int32).toUInt32 &&& Int32.toUInt32 31)).toInt32) &&& 1431655765)).toUInt32 >>> ((2 : Int32).toUInt32 &&& Int32.toUInt32 31)).toInt32) &&& 858993459)).toUInt32 >>> ((4 : Int32).toUInt32 &&& Int32.toUInt32 31)).toInt32)) &&& 252645135).toUInt32 >>> ((8 : Int32).toUInt32 &&& Int32.toUInt32 31)).toInt32)))]) hx hb dJ6_bitCount_0f7a4_40 rfl hl (by decide) rfl (fun ls hl => ?_)
  refine lv_iload_n hx hb dJ6_bitCount_0f7a4_41 rfl (lv_at hl 0 rfl) ?_
  refine lv_iload_n hx hb dJ6_bitCount_0f7a4_42 rfl (lv_at hl 0 rfl) ?_
  refine lv_bipush (v := 16) hx hb dJ6_bitCount_0f7a4_43 (by decide) ?_
  refine lv_iushr hx hb dJ6_bitCount_0f7a4_45 rfl ?_
  refine lv_iadd hx hb dJ6_bitCount_0f7a4_46 ?_
  refine lv_istore_n (lv' := [(0, .int (((((((p1 - (((p1.toUInt32 >>> ((1 : Int32).toUInt32 &&& Int32.toUInt32 31)).toInt32) &&& 1431655765)) &&& 858993459) + ((((p1 - (((p1.toUInt32 >>> ((1 : Int32).toUInt32 &&& Int32.toUInt32 31)).toInt32) &&& 1431655765)).toUInt32 >>> ((2 : Int32).toUInt32 &&& Int32.toUInt32 31)).toInt32) &&& 858993459)) + (((((p1 - (((p1.toUInt32 >>> ((1 : Int32).toUInt32 &&& Int32.toUInt32 31)).toInt32) &&& 1431655765)) &&& 858993459) + ((((p1 - (((p1.toUInt32 >>> ((1 : Int32).toUInt32 &&& Int32.toUInt32 31)).toInt32) &&& 1431655765)).toUInt32 >>> ((2 : Int32).toUInt32 &&& Int32.toUInt32 31)).toInt32) &&& 858993459)).toUInt32 >>> ((4 : Int32).toUInt32 &&& Int32.toUInt32 31)).toInt32)) &&& 252645135) + (((((((p1 - (((p1.toUInt32 >>> ((1 : Int32).toUInt32 &&& Int32.toUInt32 31)).toInt32) &&& 1431655765)) &&& 858993459) + ((((p1 - (((p1.toUInt32 >>> ((1 : Int32).toUInt32 &&& Int32.toUInt32 31)).toInt32) &&& 1431655765)).toUInt32 >>> ((2 : Int32).toUInt32 &&& Int32.toUInt32 31)).toInt32) &&& 858993459)) + (((((p1 - (((p1.toUInt32 >>> ((1 : Int32).toUInt32 &&& Int32.toUInt32 31)).toInt32) &&& 1431655765)) &&& 858993459) + ((((p1 - (((p1.toUInt32 >>> ((1 : Int32).toUInt32 &&& Int32.toUInt32 31)).toInt32) &&& 1431655765)).toUInt32 >>> ((2 : Int32).toUInt32 &&& Int32.toUInt32 31)).toInt32) &&& 858993459)).toUInt32 >>> ((4 : Int32).toUInt32 &&& Int32.toUInt32 31)).toInt32)) &&& 252645135).toUInt32 >>> ((8 : Int32).toUInt32 &&& Int32.toUInt32 31)).toInt32)) + ((((((((p1 - (((p1.toUInt32 >>> ((1 : Int32).toUInt32 &&& Int32.toUInt32 31)).toInt32) &&& 1431655765)) &&& 858993459) + ((((p1 - (((p1.toUInt32 >>> ((1 : Int32).toUInt32 &&& Int32.toUInt32 31)).toInt32) &&& 1431655765)).toUInt32 >>> ((2 : Int32).toUInt32 &&& Int32.toUInt32 31)).toInt32) &&& 858993459)) + (((((p1 - (((p1.toUInt32 >>> ((1 : Int32).toUInt32 &&& Int32.toUInt32 31)).toInt32) &&& 1431655765)) &&& 858993459) + ((((p1 - (((p1.toUInt32 >>> ((1 : Int32).toUInt32 &&& Int32.toUInt32 31)).toInt32) &&& 1431655765)).toUInt32 >>> ((2 : Int32).toUInt32 &&& Int32.toUInt32 31)).toInt32) &&& 858993459)).toUInt32 >>> ((4 : Int32).toUInt32 &&& Int32.toUInt32 31)).toInt32)) &&& 252645135) + (((((((p1 - (((p1.toUInt32 >>> ((1 : Int32).toUInt32 &&& Int32.toUInt32 31)).toInt32) &&& 1431655765)) &&& 858993459) + ((((p1 - (((p1.toUInt32 >>> ((1 : Int32).toUInt32 &&& Int32.toUInt32 31)).toInt32) &&& 1431655765)).toUInt32 >>> ((2 : Int32).toUInt32 &&& Int32.toUInt32 31)).toInt32) &&& 858993459)) + (((((p1 - (((p1.toUInt32 >>> ((1 : Int32).toUInt32 &&& Int32.toUInt32 31)).toInt32) &&& 1431655765)) &&& 858993459) + ((((p1 - (((p1.toUInt32 >>> ((1 : Int32).toUInt32 &&& Int32.toUInt32 31)).toInt32) &&& 1431655765)).toUInt32 >>> ((2 : Int32).toUInt32 &&& Int32.toUInt32 31)).toInt32) &&& 858993459)).toUInt32 >>> ((4 : Int32).toUInt32 &&& Int32.toUInt32 31)).toInt32)) &&& 252645135).toUInt32 >>> ((8 : Int32).toUInt32 &&& Int32.toUInt32 31)).toInt32)).toUInt32 >>> ((16 : Int32).toUInt32 &&& Int32.toUInt32 31)).toInt32)))]) hx hb dJ6_bitCount_0f7a4_47 rfl hl (by decide) rfl (fun ls hl => ?_)
  refine lv_iload_n hx hb dJ6_bitCount_0f7a4_48 rfl (lv_at hl 0 rfl) ?_
  refine lv_bipush (v := 63) hx hb dJ6_bitCount_0f7a4_49 (by decide) ?_
  refine lv_iand hx hb dJ6_bitCount_0f7a4_51 ?_
  exact W.iret (v := (((((((p1 - (((p1.toUInt32 >>> ((1 : Int32).toUInt32 &&& Int32.toUInt32 31)).toInt32) &&& 1431655765)) &&& 858993459) + ((((p1 - (((p1.toUInt32 >>> ((1 : Int32).toUInt32 &&& Int32.toUInt32 31)).toInt32) &&& 1431655765)).toUInt32 >>> ((2 : Int32).toUInt32 &&& Int32.toUInt32 31)).toInt32) &&& 858993459)) + (((((p1 - (((p1.toUInt32 >>> ((1 : Int32).toUInt32 &&& Int32.toUInt32 31)).toInt32) &&& 1431655765)) &&& 858993459) + ((((p1 - (((p1.toUInt32 >>> ((1 : Int32).toUInt32 &&& Int32.toUInt32 31)).toInt32) &&& 1431655765)).toUInt32 >>> ((2 : Int32).toUInt32 &&& Int32.toUInt32 31)).toInt32) &&& 858993459)).toUInt32 >>> ((4 : Int32).toUInt32 &&& Int32.toUInt32 31)).toInt32)) &&& 252645135) + (((((((p1 - (((p1.toUInt32 >>> ((1 : Int32).toUInt32 &&& Int32.toUInt32 31)).toInt32) &&& 1431655765)) &&& 858993459) + ((((p1 - (((p1.toUInt32 >>> ((1 : Int32).toUInt32 &&& Int32.toUInt32 31)).toInt32) &&& 1431655765)).toUInt32 >>> ((2 : Int32).toUInt32 &&& Int32.toUInt32 31)).toInt32) &&& 858993459)) + (((((p1 - (((p1.toUInt32 >>> ((1 : Int32).toUInt32 &&& Int32.toUInt32 31)).toInt32) &&& 1431655765)) &&& 858993459) + ((((p1 - (((p1.toUInt32 >>> ((1 : Int32).toUInt32 &&& Int32.toUInt32 31)).toInt32) &&& 1431655765)).toUInt32 >>> ((2 : Int32).toUInt32 &&& Int32.toUInt32 31)).toInt32) &&& 858993459)).toUInt32 >>> ((4 : Int32).toUInt32 &&& Int32.toUInt32 31)).toInt32)) &&& 252645135).toUInt32 >>> ((8 : Int32).toUInt32 &&& Int32.toUInt32 31)).toInt32)) + ((((((((p1 - (((p1.toUInt32 >>> ((1 : Int32).toUInt32 &&& Int32.toUInt32 31)).toInt32) &&& 1431655765)) &&& 858993459) + ((((p1 - (((p1.toUInt32 >>> ((1 : Int32).toUInt32 &&& Int32.toUInt32 31)).toInt32) &&& 1431655765)).toUInt32 >>> ((2 : Int32).toUInt32 &&& Int32.toUInt32 31)).toInt32) &&& 858993459)) + (((((p1 - (((p1.toUInt32 >>> ((1 : Int32).toUInt32 &&& Int32.toUInt32 31)).toInt32) &&& 1431655765)) &&& 858993459) + ((((p1 - (((p1.toUInt32 >>> ((1 : Int32).toUInt32 &&& Int32.toUInt32 31)).toInt32) &&& 1431655765)).toUInt32 >>> ((2 : Int32).toUInt32 &&& Int32.toUInt32 31)).toInt32) &&& 858993459)).toUInt32 >>> ((4 : Int32).toUInt32 &&& Int32.toUInt32 31)).toInt32)) &&& 252645135) + (((((((p1 - (((p1.toUInt32 >>> ((1 : Int32).toUInt32 &&& Int32.toUInt32 31)).toInt32) &&& 1431655765)) &&& 858993459) + ((((p1 - (((p1.toUInt32 >>> ((1 : Int32).toUInt32 &&& Int32.toUInt32 31)).toInt32) &&& 1431655765)).toUInt32 >>> ((2 : Int32).toUInt32 &&& Int32.toUInt32 31)).toInt32) &&& 858993459)) + (((((p1 - (((p1.toUInt32 >>> ((1 : Int32).toUInt32 &&& Int32.toUInt32 31)).toInt32) &&& 1431655765)) &&& 858993459) + ((((p1 - (((p1.toUInt32 >>> ((1 : Int32).toUInt32 &&& Int32.toUInt32 31)).toInt32) &&& 1431655765)).toUInt32 >>> ((2 : Int32).toUInt32 &&& Int32.toUInt32 31)).toInt32) &&& 858993459)).toUInt32 >>> ((4 : Int32).toUInt32 &&& Int32.toUInt32 31)).toInt32)) &&& 252645135).toUInt32 >>> ((8 : Int32).toUInt32 &&& Int32.toUInt32 31)).toInt32)).toUInt32 >>> ((16 : Int32).toUInt32 &&& Int32.toUInt32 31)).toInt32)) &&& 63) hx hb hr (fun t ht hW => ⟨(((((((p1 - (((p1.toUInt32 >>> ((1 : Int32).toUInt32 &&& Int32.toUInt32 31)).toInt32) &&& 1431655765)) &&& 858993459) + ((((p1 - (((p1.toUInt32 >>> ((1 : Int32).toUInt32 &&& Int32.toUInt32 31)).toInt32) &&& 1431655765)).toUInt32 >>> ((2 : Int32).toUInt32 &&& Int32.toUInt32 31)).toInt32) &&& 858993459)) + (((((p1 - (((p1.toUInt32 >>> ((1 : Int32).toUInt32 &&& Int32.toUInt32 31)).toInt32) &&& 1431655765)) &&& 858993459) + ((((p1 - (((p1.toUInt32 >>> ((1 : Int32).toUInt32 &&& Int32.toUInt32 31)).toInt32) &&& 1431655765)).toUInt32 >>> ((2 : Int32).toUInt32 &&& Int32.toUInt32 31)).toInt32) &&& 858993459)).toUInt32 >>> ((4 : Int32).toUInt32 &&& Int32.toUInt32 31)).toInt32)) &&& 252645135) + (((((((p1 - (((p1.toUInt32 >>> ((1 : Int32).toUInt32 &&& Int32.toUInt32 31)).toInt32) &&& 1431655765)) &&& 858993459) + ((((p1 - (((p1.toUInt32 >>> ((1 : Int32).toUInt32 &&& Int32.toUInt32 31)).toInt32) &&& 1431655765)).toUInt32 >>> ((2 : Int32).toUInt32 &&& Int32.toUInt32 31)).toInt32) &&& 858993459)) + (((((p1 - (((p1.toUInt32 >>> ((1 : Int32).toUInt32 &&& Int32.toUInt32 31)).toInt32) &&& 1431655765)) &&& 858993459) + ((((p1 - (((p1.toUInt32 >>> ((1 : Int32).toUInt32 &&& Int32.toUInt32 31)).toInt32) &&& 1431655765)).toUInt32 >>> ((2 : Int32).toUInt32 &&& Int32.toUInt32 31)).toInt32) &&& 858993459)).toUInt32 >>> ((4 : Int32).toUInt32 &&& Int32.toUInt32 31)).toInt32)) &&& 252645135).toUInt32 >>> ((8 : Int32).toUInt32 &&& Int32.toUInt32 31)).toInt32)) + ((((((((p1 - (((p1.toUInt32 >>> ((1 : Int32).toUInt32 &&& Int32.toUInt32 31)).toInt32) &&& 1431655765)) &&& 858993459) + ((((p1 - (((p1.toUInt32 >>> ((1 : Int32).toUInt32 &&& Int32.toUInt32 31)).toInt32) &&& 1431655765)).toUInt32 >>> ((2 : Int32).toUInt32 &&& Int32.toUInt32 31)).toInt32) &&& 858993459)) + (((((p1 - (((p1.toUInt32 >>> ((1 : Int32).toUInt32 &&& Int32.toUInt32 31)).toInt32) &&& 1431655765)) &&& 858993459) + ((((p1 - (((p1.toUInt32 >>> ((1 : Int32).toUInt32 &&& Int32.toUInt32 31)).toInt32) &&& 1431655765)).toUInt32 >>> ((2 : Int32).toUInt32 &&& Int32.toUInt32 31)).toInt32) &&& 858993459)).toUInt32 >>> ((4 : Int32).toUInt32 &&& Int32.toUInt32 31)).toInt32)) &&& 252645135) + (((((((p1 - (((p1.toUInt32 >>> ((1 : Int32).toUInt32 &&& Int32.toUInt32 31)).toInt32) &&& 1431655765)) &&& 858993459) + ((((p1 - (((p1.toUInt32 >>> ((1 : Int32).toUInt32 &&& Int32.toUInt32 31)).toInt32) &&& 1431655765)).toUInt32 >>> ((2 : Int32).toUInt32 &&& Int32.toUInt32 31)).toInt32) &&& 858993459)) + (((((p1 - (((p1.toUInt32 >>> ((1 : Int32).toUInt32 &&& Int32.toUInt32 31)).toInt32) &&& 1431655765)) &&& 858993459) + ((((p1 - (((p1.toUInt32 >>> ((1 : Int32).toUInt32 &&& Int32.toUInt32 31)).toInt32) &&& 1431655765)).toUInt32 >>> ((2 : Int32).toUInt32 &&& Int32.toUInt32 31)).toInt32) &&& 858993459)).toUInt32 >>> ((4 : Int32).toUInt32 &&& Int32.toUInt32 31)).toInt32)) &&& 252645135).toUInt32 >>> ((8 : Int32).toUInt32 &&& Int32.toUInt32 31)).toInt32)).toUInt32 >>> ((16 : Int32).toUInt32 &&& Int32.toUInt32 31)).toInt32)) &&& 63, rfl, hv, ht⟩) (fun _ h => nomatch h) dJ6_bitCount_0f7a4_52 (hlocks := hlocks)
theorem hd_X6_has : yX6_has.cls ≠ "java/lang/invoke/MethodHandle" ∧ yX6_has.cls ≠ "java/lang/invoke/VarHandle" ∧ (parseMethodDescriptor yX6_has.desc).map (fun d => d.parameters.length) = some 1 := by decide +kernel
def sX6_has (O : OF) (p1 : Int32) : Bool := (if p1 < 0 then false else (if (O.1 4) ≤ p1 then false else (if 30 ≤ p1 then false else true)))
theorem X6_in {O : OF} {p : Int32} (h : sX6_has O p = true) : vp_in p 30 := by
  unfold sX6_has at h
  by_cases h1 : p < 0
  · rw [if_pos h1] at h; exact nomatch h
  rw [if_neg h1] at h
  by_cases h2 : (O.1 4) ≤ p
  · rw [if_pos h2] at h; exact nomatch h
  rw [if_neg h2] at h
  by_cases h3 : 30 ≤ p
  · rw [if_pos h3] at h; exact nomatch h
  exact vp_a rfl h1 h3
set_option maxHeartbeats 4000000 in
set_option maxRecDepth 100000 in
theorem c_X6_has (l : Launch) (D : va_G) (cs : Nat → ClassId) (a : Nat → Nat) (O : OF) (p1 : Int32) : Met l yX6_has (wc yX6_has cX6_has 2 (some .boolean)) ({ frames := 0, cells := 0, slots := 0, locals := 0 } : Room) (va_Pc [.ref (a 3), .int p1] (PE D cs (ofW cs a O))) (vp_Si (fun r9 => r9 = b2i (sX6_has O p1))) 0 0 (fun _ => False) := by
  obtain ⟨v, hv⟩ : ∃ v, sX6_has O p1 = v := ⟨_, rfl⟩
  rw [hv]
  refine met_o (lv := [(0, .ref (a 3)), (1, .int p1)]) (by decide) (Nat.le_of_ble_eq_true rfl) rfl ?_
  intro p e s m args below meth c ls hx hb hr hml hts hown hlocks hin hP hE hl
  have hown : s.vm.findClass RX6 = some m.cls := hown
  have hK := hE.1
  have hP : va_P D vwC (ofW cs a O) s.heap := hP
  unfold sX6_has at hv
  refine lv_iload_n hx hb dX6_has_0 rfl (lv_at hl 1 rfl) ?_
  refine join_i (J := 23) (ls := ls) (rest := []) (b2i (if p1 < 0 then false else (if (O.1 4) ≤ p1 then false else (if 30 ≤ p1 then false else true)))) ?_ (fun hJ => ?_)
  · exact W.zret (ty := .boolean) (v := b2i (if p1 < 0 then false else (if (O.1 4) ≤ p1 then false else (if 30 ≤ p1 then false else true)))) hx hb hr (b2i_nar (if p1 < 0 then false else (if (O.1 4) ≤ p1 then false else (if 30 ≤ p1 then false else true)))) (fun t ht hW => ⟨b2i (if p1 < 0 then false else (if (O.1 4) ≤ p1 then false else (if 30 ≤ p1 then false else true))), rfl, congrArg b2i hv, ht⟩) (fun _ h => nomatch h) dX6_has_23 (hlocks := hlocks)
  · refine lv_if_lt (tgt := 22) hx hb dX6_has_1 (by decide) (fun c1 => ?_) (fun c1 => ?_)
    · refine lv_iconst (v := 0) hx hb dX6_has_22 (by decide) ?_
      exact hJ _ (congrArg b2i ((if_pos c1).trans rfl))
    · refine lv_iload_n hx hb dX6_has_4 rfl (lv_at hl 1 rfl) ?_
      refine lv_aload_n hx hb dX6_has_5 rfl (lv_at hl 0 rfl) ?_
      refine va_get (D := D) (ci := 6) (v := .int (O.1 4)) (C := RX6) (T := TX6) (N := 5) hx hb hts iw_X6 hown hK hP 3 rfl rfl 0 (by decide) (hts _ w_fl_X6_24) (fun _ h9 => h9) rfl dX6_has_6 ?_
      refine lv_icmp_ge (tgt := 22) hx hb dX6_has_9 (by decide) (fun c9 => ?_) (fun c9 => ?_)
      · refine lv_iconst (v := 0) hx hb dX6_has_22 (by decide) ?_
        exact hJ _ (congrArg b2i ((if_neg c1).trans ((if_pos c9).trans rfl)))
      · refine lv_iload_n hx hb dX6_has_12 rfl (lv_at hl 1 rfl) ?_
        refine lv_bipush (v := 30) hx hb dX6_has_13 (by decide) ?_
        refine lv_icmp_ge (tgt := 22) hx hb dX6_has_15 (by decide) (fun c15 => ?_) (fun c15 => ?_)
        · refine lv_iconst (v := 0) hx hb dX6_has_22 (by decide) ?_
          exact hJ _ (congrArg b2i ((if_neg c1).trans ((if_neg c9).trans ((if_pos c15).trans rfl))))
        · refine lv_iconst (v := 1) hx hb dX6_has_18 (by decide) ?_
          refine lv_goto (tgt := 23) hx hb dX6_has_19 (by decide) ?_
          exact hJ _ (congrArg b2i ((if_neg c1).trans ((if_neg c9).trans ((if_neg c15).trans rfl))))
theorem hd_X6_size : yX6_size.cls ≠ "java/lang/invoke/MethodHandle" ∧ yX6_size.cls ≠ "java/lang/invoke/VarHandle" ∧ (parseMethodDescriptor yX6_size.desc).map (fun d => d.parameters.length) = some 0 := by decide +kernel
def sX6_size (O : OF) : Int32 := (O.1 4)
set_option maxHeartbeats 4000000 in
set_option maxRecDepth 100000 in
theorem c_X6_size (l : Launch) (D : va_G) (cs : Nat → ClassId) (a : Nat → Nat) (O : OF) : Met l yX6_size (wc yX6_size cX6_size 1 (some .int)) ({ frames := 0, cells := 0, slots := 0, locals := 0 } : Room) (va_Pc [.ref (a 3)] (PE D cs (ofW cs a O))) (vp_Si (fun r9 => r9 = (sX6_size O))) 0 0 (fun _ => False) := by
  obtain ⟨v, hv⟩ : ∃ v, sX6_size O = v := ⟨_, rfl⟩
  rw [hv]
  refine met_o (lv := [(0, .ref (a 3))]) (by decide) (Nat.le_of_ble_eq_true rfl) rfl ?_
  intro p e s m args below meth c ls hx hb hr hml hts hown hlocks hin hP hE hl
  have hown : s.vm.findClass RX6 = some m.cls := hown
  have hK := hE.1
  have hP : va_P D vwC (ofW cs a O) s.heap := hP
  unfold sX6_size at hv
  refine lv_aload_n hx hb dX6_size_0 rfl (lv_at hl 0 rfl) ?_
  refine va_get (D := D) (ci := 6) (v := .int (O.1 4)) (C := RX6) (T := TX6) (N := 5) hx hb hts iw_X6 hown hK hP 3 rfl rfl 0 (by decide) (hts _ w_fl_X6_24) (fun _ h9 => h9) rfl dX6_size_1 ?_
  exact W.iret (v := (O.1 4)) hx hb hr (fun t ht hW => ⟨(O.1 4), rfl, hv, ht⟩) (fun _ h => nomatch h) dX6_size_4 (hlocks := hlocks)
theorem hd_X6_siteOf : yX6_siteOf.cls ≠ "java/lang/invoke/MethodHandle" ∧ yX6_siteOf.cls ≠ "java/lang/invoke/VarHandle" ∧ (parseMethodDescriptor yX6_siteOf.desc).map (fun d => d.parameters.length) = some 1 := by decide +kernel
def sX6_siteOf (O : OF) (p1 : Int32) : Int32 := (if (sX6_has O p1) = true then (O.2 14) p1.toNatClampNeg else (-1 : Int32))
set_option maxHeartbeats 4000000 in
set_option maxRecDepth 100000 in
theorem c_X6_siteOf (l : Launch) (D : va_G) (cs : Nat → ClassId) (a : Nat → Nat) (O : OF) (p1 : Int32) : Met l yX6_siteOf (wc yX6_siteOf cX6_siteOf 2 (some .int)) ({ frames := 1, cells := 0, slots := 0, locals := 21 } : Room) (va_Pc [.ref (a 3), .int p1] (PE D cs (ofW cs a O))) (vp_Si (fun r9 => r9 = (sX6_siteOf O p1))) 0 0 (fun _ => False) := by
  obtain ⟨v, hv⟩ : ∃ v, sX6_siteOf O p1 = v := ⟨_, rfl⟩
  rw [hv]
  refine met_o (lv := [(0, .ref (a 3)), (1, .int p1)]) (by decide) (Nat.le_of_ble_eq_true rfl) rfl ?_
  intro p e s m args below meth c ls hx hb hr hml hts hown hlocks hin hP hE hl
  have hown : s.vm.findClass RX6 = some m.cls := hown
  have hK := hE.1
  have hP : va_P D vwC (ofW cs a O) s.heap := hP
  unfold sX6_siteOf at hv
  refine lv_aload_n hx hb dX6_siteOf_0 rfl (lv_at hl 0 rfl) ?_
  refine lv_iload_n hx hb dX6_siteOf_1 rfl (lv_at hl 1 rfl) ?_
  refine ro_i (b2i (sX6_has O p1)) (run_c (va_runV (As := [.int p1]) (rest := []) ⟨hx, hb, hml, hown, hts⟩ (c_X6_has l D cs a O p1) (cwV 1 hts (good_V w_ml_X6_34 w_im_X6_has w_se_X6_has w_in_X6 w_co_X6_has) rfl rfl rfl ⟨rfl, hd_X6_has⟩ ⟨Nat.le_of_ble_eq_true rfl, Nat.le_of_ble_eq_true rfl⟩) (pe_W (C := RX6) (T := TX6) (N := 5) (ci := 6) (q0 := 3) hP hE rfl rfl) rfl rfl hl.1 rfl (lv_room (Nat.le_of_ble_eq_true rfl)) dX6_siteOf_2 ⟨Nat.zero_le _, Nat.zero_le _⟩)) ?_
  refine join_i (J := 18) (ls := ls) (rest := []) ((if (sX6_has O p1) = true then (O.2 14) p1.toNatClampNeg else (-1 : Int32))) ?_ (fun hJ => ?_)
  · exact W.iret (v := (if (sX6_has O p1) = true then (O.2 14) p1.toNatClampNeg else (-1 : Int32))) hx hb hr (fun t ht hW => ⟨(if (sX6_has O p1) = true then (O.2 14) p1.toNatClampNeg else (-1 : Int32)), rfl, hv, ht⟩) (fun _ h => nomatch h) dX6_siteOf_18 (hlocks := hlocks)
  · refine lv_if_eq (tgt := 17) hx hb dX6_siteOf_5 (by decide) (fun c5 => ?_) (fun c5 => ?_)
    · have c5 := b2i_f c5
      refine lv_iconst (v := (-1)) hx hb dX6_siteOf_17 (by decide) ?_
      exact hJ _ ((if_neg c5).trans rfl)
    · have c5 := b2i_t c5
      refine lv_aload_n hx hb dX6_siteOf_8 rfl (lv_at hl 0 rfl) ?_
      refine va_get (D := D) (ci := 6) (v := .ref (a 14)) (C := RX6) (T := TX6) (N := 5) hx hb hts iw_X6 hown hK hP 3 rfl rfl 1 (by decide) (hts _ w_fl_X6_9) (fun _ h9 => h9) rfl dX6_siteOf_9 ?_
      refine lv_iload_n hx hb dX6_siteOf_12 rfl (lv_at hl 1 rfl) ?_
      refine va_iald (cA := cs 0) (n := 30) (f := (O.2 14)) hx hb hK hP 14 0 rfl rfl (by first | exact X6_in (by assumption) | exact in_X7_isSetting (by assumption)) dX6_siteOf_13 ?_
      refine lv_goto (tgt := 18) hx hb dX6_siteOf_14 (by decide) ?_
      exact hJ _ ((if_pos c5).trans rfl)
theorem hd_X6_sheetOf : yX6_sheetOf.cls ≠ "java/lang/invoke/MethodHandle" ∧ yX6_sheetOf.cls ≠ "java/lang/invoke/VarHandle" ∧ (parseMethodDescriptor yX6_sheetOf.desc).map (fun d => d.parameters.length) = some 1 := by decide +kernel
def sX6_sheetOf (O : OF) (p1 : Int32) : Int32 := (if (sX6_has O p1) = true then (O.2 15) p1.toNatClampNeg else (-1 : Int32))
set_option maxHeartbeats 4000000 in
set_option maxRecDepth 100000 in
theorem c_X6_sheetOf (l : Launch) (D : va_G) (cs : Nat → ClassId) (a : Nat → Nat) (O : OF) (p1 : Int32) : Met l yX6_sheetOf (wc yX6_sheetOf cX6_sheetOf 2 (some .int)) ({ frames := 1, cells := 0, slots := 0, locals := 21 } : Room) (va_Pc [.ref (a 3), .int p1] (PE D cs (ofW cs a O))) (vp_Si (fun r9 => r9 = (sX6_sheetOf O p1))) 0 0 (fun _ => False) := by
  obtain ⟨v, hv⟩ : ∃ v, sX6_sheetOf O p1 = v := ⟨_, rfl⟩
  rw [hv]
  refine met_o (lv := [(0, .ref (a 3)), (1, .int p1)]) (by decide) (Nat.le_of_ble_eq_true rfl) rfl ?_
  intro p e s m args below meth c ls hx hb hr hml hts hown hlocks hin hP hE hl
  have hown : s.vm.findClass RX6 = some m.cls := hown
  have hK := hE.1
  have hP : va_P D vwC (ofW cs a O) s.heap := hP
  unfold sX6_sheetOf at hv
  refine lv_aload_n hx hb dX6_sheetOf_0 rfl (lv_at hl 0 rfl) ?_
  refine lv_iload_n hx hb dX6_sheetOf_1 rfl (lv_at hl 1 rfl) ?_
  refine ro_i (b2i (sX6_has O p1)) (run_c (va_runV (As := [.int p1]) (rest := []) ⟨hx, hb, hml, hown, hts⟩ (c_X6_has l D cs a O p1) (cwV 1 hts (good_V w_ml_X6_34 w_im_X6_has w_se_X6_has w_in_X6 w_co_X6_has) rfl rfl rfl ⟨rfl, hd_X6_has⟩ ⟨Nat.le_of_ble_eq_true rfl, Nat.le_of_ble_eq_true rfl⟩) (pe_W (C := RX6) (T := TX6) (N := 5) (ci := 6) (q0 := 3) hP hE rfl rfl) rfl rfl hl.1 rfl (lv_room (Nat.le_of_ble_eq_true rfl)) dX6_sheetOf_2 ⟨Nat.zero_le _, Nat.zero_le _⟩)) ?_
  refine join_i (J := 18) (ls := ls) (rest := []) ((if (sX6_has O p1) = true then (O.2 15) p1.toNatClampNeg else (-1 : Int32))) ?_ (fun hJ => ?_)
  · exact W.iret (v := (if (sX6_has O p1) = true then (O.2 15) p1.toNatClampNeg else (-1 : Int32))) hx hb hr (fun t ht hW => ⟨(if (sX6_has O p1) = true then (O.2 15) p1.toNatClampNeg else (-1 : Int32)), rfl, hv, ht⟩) (fun _ h => nomatch h) dX6_sheetOf_18 (hlocks := hlocks)
  · refine lv_if_eq (tgt := 17) hx hb dX6_sheetOf_5 (by decide) (fun c5 => ?_) (fun c5 => ?_)
    · have c5 := b2i_f c5
      refine lv_iconst (v := (-1)) hx hb dX6_sheetOf_17 (by decide) ?_
      exact hJ _ ((if_neg c5).trans rfl)
    · have c5 := b2i_t c5
      refine lv_aload_n hx hb dX6_sheetOf_8 rfl (lv_at hl 0 rfl) ?_
      refine va_get (D := D) (ci := 6) (v := .ref (a 15)) (C := RX6) (T := TX6) (N := 5) hx hb hts iw_X6 hown hK hP 3 rfl rfl 2 (by decide) (hts _ w_fl_X6_15) (fun _ h9 => h9) rfl dX6_sheetOf_9 ?_
      refine lv_iload_n hx hb dX6_sheetOf_12 rfl (lv_at hl 1 rfl) ?_
      refine va_iald (cA := cs 0) (n := 30) (f := (O.2 15)) hx hb hK hP 15 0 rfl rfl (by first | exact X6_in (by assumption) | exact in_X7_isSetting (by assumption)) dX6_sheetOf_13 ?_
      refine lv_goto (tgt := 18) hx hb dX6_sheetOf_14 (by decide) ?_
      exact hJ _ ((if_pos c5).trans rfl)
theorem hd_X6_fieldOf : yX6_fieldOf.cls ≠ "java/lang/invoke/MethodHandle" ∧ yX6_fieldOf.cls ≠ "java/lang/invoke/VarHandle" ∧ (parseMethodDescriptor yX6_fieldOf.desc).map (fun d => d.parameters.length) = some 1 := by decide +kernel
def sX6_fieldOf (O : OF) (p1 : Int32) : Int32 := (if (sX6_has O p1) = true then (O.2 16) p1.toNatClampNeg else (-1 : Int32))
set_option maxHeartbeats 4000000 in
set_option maxRecDepth 100000 in
theorem c_X6_fieldOf (l : Launch) (D : va_G) (cs : Nat → ClassId) (a : Nat → Nat) (O : OF) (p1 : Int32) : Met l yX6_fieldOf (wc yX6_fieldOf cX6_fieldOf 2 (some .int)) ({ frames := 1, cells := 0, slots := 0, locals := 21 } : Room) (va_Pc [.ref (a 3), .int p1] (PE D cs (ofW cs a O))) (vp_Si (fun r9 => r9 = (sX6_fieldOf O p1))) 0 0 (fun _ => False) := by
  obtain ⟨v, hv⟩ : ∃ v, sX6_fieldOf O p1 = v := ⟨_, rfl⟩
  rw [hv]
  refine met_o (lv := [(0, .ref (a 3)), (1, .int p1)]) (by decide) (Nat.le_of_ble_eq_true rfl) rfl ?_
  intro p e s m args below meth c ls hx hb hr hml hts hown hlocks hin hP hE hl
  have hown : s.vm.findClass RX6 = some m.cls := hown
  have hK := hE.1
  have hP : va_P D vwC (ofW cs a O) s.heap := hP
  unfold sX6_fieldOf at hv
  refine lv_aload_n hx hb dX6_fieldOf_0 rfl (lv_at hl 0 rfl) ?_
  refine lv_iload_n hx hb dX6_fieldOf_1 rfl (lv_at hl 1 rfl) ?_
  refine ro_i (b2i (sX6_has O p1)) (run_c (va_runV (As := [.int p1]) (rest := []) ⟨hx, hb, hml, hown, hts⟩ (c_X6_has l D cs a O p1) (cwV 1 hts (good_V w_ml_X6_34 w_im_X6_has w_se_X6_has w_in_X6 w_co_X6_has) rfl rfl rfl ⟨rfl, hd_X6_has⟩ ⟨Nat.le_of_ble_eq_true rfl, Nat.le_of_ble_eq_true rfl⟩) (pe_W (C := RX6) (T := TX6) (N := 5) (ci := 6) (q0 := 3) hP hE rfl rfl) rfl rfl hl.1 rfl (lv_room (Nat.le_of_ble_eq_true rfl)) dX6_fieldOf_2 ⟨Nat.zero_le _, Nat.zero_le _⟩)) ?_
  refine join_i (J := 18) (ls := ls) (rest := []) ((if (sX6_has O p1) = true then (O.2 16) p1.toNatClampNeg else (-1 : Int32))) ?_ (fun hJ => ?_)
  · exact W.iret (v := (if (sX6_has O p1) = true then (O.2 16) p1.toNatClampNeg else (-1 : Int32))) hx hb hr (fun t ht hW => ⟨(if (sX6_has O p1) = true then (O.2 16) p1.toNatClampNeg else (-1 : Int32)), rfl, hv, ht⟩) (fun _ h => nomatch h) dX6_fieldOf_18 (hlocks := hlocks)
  · refine lv_if_eq (tgt := 17) hx hb dX6_fieldOf_5 (by decide) (fun c5 => ?_) (fun c5 => ?_)
    · have c5 := b2i_f c5
      refine lv_iconst (v := (-1)) hx hb dX6_fieldOf_17 (by decide) ?_
      exact hJ _ ((if_neg c5).trans rfl)
    · have c5 := b2i_t c5
      refine lv_aload_n hx hb dX6_fieldOf_8 rfl (lv_at hl 0 rfl) ?_
      refine va_get (D := D) (ci := 6) (v := .ref (a 16)) (C := RX6) (T := TX6) (N := 5) hx hb hts iw_X6 hown hK hP 3 rfl rfl 3 (by decide) (hts _ w_fl_X6_18) (fun _ h9 => h9) rfl dX6_fieldOf_9 ?_
      refine lv_iload_n hx hb dX6_fieldOf_12 rfl (lv_at hl 1 rfl) ?_
      refine va_iald (cA := cs 0) (n := 30) (f := (O.2 16)) hx hb hK hP 16 0 rfl rfl (by first | exact X6_in (by assumption) | exact in_X7_isSetting (by assumption)) dX6_fieldOf_13 ?_
      refine lv_goto (tgt := 18) hx hb dX6_fieldOf_14 (by decide) ?_
      exact hJ _ ((if_pos c5).trans rfl)
theorem hd_X6_revisionOf : yX6_revisionOf.cls ≠ "java/lang/invoke/MethodHandle" ∧ yX6_revisionOf.cls ≠ "java/lang/invoke/VarHandle" ∧ (parseMethodDescriptor yX6_revisionOf.desc).map (fun d => d.parameters.length) = some 1 := by decide +kernel
def sX6_revisionOf (O : OF) (p1 : Int32) : Int32 := (if (sX6_has O p1) = true then (O.2 17) p1.toNatClampNeg else (-1 : Int32))
set_option maxHeartbeats 4000000 in
set_option maxRecDepth 100000 in
theorem c_X6_revisionOf (l : Launch) (D : va_G) (cs : Nat → ClassId) (a : Nat → Nat) (O : OF) (p1 : Int32) : Met l yX6_revisionOf (wc yX6_revisionOf cX6_revisionOf 2 (some .int)) ({ frames := 1, cells := 0, slots := 0, locals := 21 } : Room) (va_Pc [.ref (a 3), .int p1] (PE D cs (ofW cs a O))) (vp_Si (fun r9 => r9 = (sX6_revisionOf O p1))) 0 0 (fun _ => False) := by
  obtain ⟨v, hv⟩ : ∃ v, sX6_revisionOf O p1 = v := ⟨_, rfl⟩
  rw [hv]
  refine met_o (lv := [(0, .ref (a 3)), (1, .int p1)]) (by decide) (Nat.le_of_ble_eq_true rfl) rfl ?_
  intro p e s m args below meth c ls hx hb hr hml hts hown hlocks hin hP hE hl
  have hown : s.vm.findClass RX6 = some m.cls := hown
  have hK := hE.1
  have hP : va_P D vwC (ofW cs a O) s.heap := hP
  unfold sX6_revisionOf at hv
  refine lv_aload_n hx hb dX6_revisionOf_0 rfl (lv_at hl 0 rfl) ?_
  refine lv_iload_n hx hb dX6_revisionOf_1 rfl (lv_at hl 1 rfl) ?_
  refine ro_i (b2i (sX6_has O p1)) (run_c (va_runV (As := [.int p1]) (rest := []) ⟨hx, hb, hml, hown, hts⟩ (c_X6_has l D cs a O p1) (cwV 1 hts (good_V w_ml_X6_34 w_im_X6_has w_se_X6_has w_in_X6 w_co_X6_has) rfl rfl rfl ⟨rfl, hd_X6_has⟩ ⟨Nat.le_of_ble_eq_true rfl, Nat.le_of_ble_eq_true rfl⟩) (pe_W (C := RX6) (T := TX6) (N := 5) (ci := 6) (q0 := 3) hP hE rfl rfl) rfl rfl hl.1 rfl (lv_room (Nat.le_of_ble_eq_true rfl)) dX6_revisionOf_2 ⟨Nat.zero_le _, Nat.zero_le _⟩)) ?_
  refine join_i (J := 18) (ls := ls) (rest := []) ((if (sX6_has O p1) = true then (O.2 17) p1.toNatClampNeg else (-1 : Int32))) ?_ (fun hJ => ?_)
  · exact W.iret (v := (if (sX6_has O p1) = true then (O.2 17) p1.toNatClampNeg else (-1 : Int32))) hx hb hr (fun t ht hW => ⟨(if (sX6_has O p1) = true then (O.2 17) p1.toNatClampNeg else (-1 : Int32)), rfl, hv, ht⟩) (fun _ h => nomatch h) dX6_revisionOf_18 (hlocks := hlocks)
  · refine lv_if_eq (tgt := 17) hx hb dX6_revisionOf_5 (by decide) (fun c5 => ?_) (fun c5 => ?_)
    · have c5 := b2i_f c5
      refine lv_iconst (v := (-1)) hx hb dX6_revisionOf_17 (by decide) ?_
      exact hJ _ ((if_neg c5).trans rfl)
    · have c5 := b2i_t c5
      refine lv_aload_n hx hb dX6_revisionOf_8 rfl (lv_at hl 0 rfl) ?_
      refine va_get (D := D) (ci := 6) (v := .ref (a 17)) (C := RX6) (T := TX6) (N := 5) hx hb hts iw_X6 hown hK hP 3 rfl rfl 4 (by decide) (hts _ w_fl_X6_21) (fun _ h9 => h9) rfl dX6_revisionOf_9 ?_
      refine lv_iload_n hx hb dX6_revisionOf_12 rfl (lv_at hl 1 rfl) ?_
      refine va_iald (cA := cs 0) (n := 30) (f := (O.2 17)) hx hb hK hP 17 0 rfl rfl (by first | exact X6_in (by assumption) | exact in_X7_isSetting (by assumption)) dX6_revisionOf_13 ?_
      refine lv_goto (tgt := 18) hx hb dX6_revisionOf_14 (by decide) ?_
      exact hJ _ ((if_pos c5).trans rfl)
theorem hd_X4_has : yX4_has.cls ≠ "java/lang/invoke/MethodHandle" ∧ yX4_has.cls ≠ "java/lang/invoke/VarHandle" ∧ (parseMethodDescriptor yX4_has.desc).map (fun d => d.parameters.length) = some 1 := by decide +kernel
def sX4_has (O : OF) (p1 : Int32) : Bool := (if p1 < 0 then false else (if (O.1 0) ≤ p1 then false else (if 10 ≤ p1 then false else true)))
theorem X4_in {O : OF} {p : Int32} (h : sX4_has O p = true) : vp_in p 10 := by
  unfold sX4_has at h
  by_cases h1 : p < 0
  · rw [if_pos h1] at h; exact nomatch h
  rw [if_neg h1] at h
  by_cases h2 : (O.1 0) ≤ p
  · rw [if_pos h2] at h; exact nomatch h
  rw [if_neg h2] at h
  by_cases h3 : 10 ≤ p
  · rw [if_pos h3] at h; exact nomatch h
  exact vp_a rfl h1 h3
set_option maxHeartbeats 4000000 in
set_option maxRecDepth 100000 in
theorem c_X4_has (l : Launch) (D : va_G) (cs : Nat → ClassId) (a : Nat → Nat) (O : OF) (p1 : Int32) : Met l yX4_has (wc yX4_has cX4_has 2 (some .boolean)) ({ frames := 0, cells := 0, slots := 0, locals := 0 } : Room) (va_Pc [.ref (a 1), .int p1] (PE D cs (ofW cs a O))) (vp_Si (fun r9 => r9 = b2i (sX4_has O p1))) 0 0 (fun _ => False) := by
  obtain ⟨v, hv⟩ : ∃ v, sX4_has O p1 = v := ⟨_, rfl⟩
  rw [hv]
  refine met_o (lv := [(0, .ref (a 1)), (1, .int p1)]) (by decide) (Nat.le_of_ble_eq_true rfl) rfl ?_
  intro p e s m args below meth c ls hx hb hr hml hts hown hlocks hin hP hE hl
  have hown : s.vm.findClass RX4 = some m.cls := hown
  have hK := hE.1
  have hP : va_P D vwC (ofW cs a O) s.heap := hP
  unfold sX4_has at hv
  refine lv_iload_n hx hb dX4_has_0 rfl (lv_at hl 1 rfl) ?_
  refine join_i (J := 23) (ls := ls) (rest := []) (b2i (if p1 < 0 then false else (if (O.1 0) ≤ p1 then false else (if 10 ≤ p1 then false else true)))) ?_ (fun hJ => ?_)
  · exact W.zret (ty := .boolean) (v := b2i (if p1 < 0 then false else (if (O.1 0) ≤ p1 then false else (if 10 ≤ p1 then false else true)))) hx hb hr (b2i_nar (if p1 < 0 then false else (if (O.1 0) ≤ p1 then false else (if 10 ≤ p1 then false else true)))) (fun t ht hW => ⟨b2i (if p1 < 0 then false else (if (O.1 0) ≤ p1 then false else (if 10 ≤ p1 then false else true))), rfl, congrArg b2i hv, ht⟩) (fun _ h => nomatch h) dX4_has_23 (hlocks := hlocks)
  · refine lv_if_lt (tgt := 22) hx hb dX4_has_1 (by decide) (fun c1 => ?_) (fun c1 => ?_)
    · refine lv_iconst (v := 0) hx hb dX4_has_22 (by decide) ?_
      exact hJ _ (congrArg b2i ((if_pos c1).trans rfl))
    · refine lv_iload_n hx hb dX4_has_4 rfl (lv_at hl 1 rfl) ?_
      refine lv_aload_n hx hb dX4_has_5 rfl (lv_at hl 0 rfl) ?_
      refine va_get (D := D) (ci := 4) (v := .int (O.1 0)) (C := RX4) (T := TX4) (N := 5) hx hb hts iw_X4 hown hK hP 1 rfl rfl 0 (by decide) (hts _ w_fl_X4_21) (fun _ h9 => h9) rfl dX4_has_6 ?_
      refine lv_icmp_ge (tgt := 22) hx hb dX4_has_9 (by decide) (fun c9 => ?_) (fun c9 => ?_)
      · refine lv_iconst (v := 0) hx hb dX4_has_22 (by decide) ?_
        exact hJ _ (congrArg b2i ((if_neg c1).trans ((if_pos c9).trans rfl)))
      · refine lv_iload_n hx hb dX4_has_12 rfl (lv_at hl 1 rfl) ?_
        refine lv_bipush (v := 10) hx hb dX4_has_13 (by decide) ?_
        refine lv_icmp_ge (tgt := 22) hx hb dX4_has_15 (by decide) (fun c15 => ?_) (fun c15 => ?_)
        · refine lv_iconst (v := 0) hx hb dX4_has_22 (by decide) ?_
          exact hJ _ (congrArg b2i ((if_neg c1).trans ((if_neg c9).trans ((if_pos c15).trans rfl))))
        · refine lv_iconst (v := 1) hx hb dX4_has_18 (by decide) ?_
          refine lv_goto (tgt := 23) hx hb dX4_has_19 (by decide) ?_
          exact hJ _ (congrArg b2i ((if_neg c1).trans ((if_neg c9).trans ((if_neg c15).trans rfl))))
theorem hd_X4_size : yX4_size.cls ≠ "java/lang/invoke/MethodHandle" ∧ yX4_size.cls ≠ "java/lang/invoke/VarHandle" ∧ (parseMethodDescriptor yX4_size.desc).map (fun d => d.parameters.length) = some 0 := by decide +kernel
def sX4_size (O : OF) : Int32 := (O.1 0)
set_option maxHeartbeats 4000000 in
set_option maxRecDepth 100000 in
theorem c_X4_size (l : Launch) (D : va_G) (cs : Nat → ClassId) (a : Nat → Nat) (O : OF) : Met l yX4_size (wc yX4_size cX4_size 1 (some .int)) ({ frames := 0, cells := 0, slots := 0, locals := 0 } : Room) (va_Pc [.ref (a 1)] (PE D cs (ofW cs a O))) (vp_Si (fun r9 => r9 = (sX4_size O))) 0 0 (fun _ => False) := by
  obtain ⟨v, hv⟩ : ∃ v, sX4_size O = v := ⟨_, rfl⟩
  rw [hv]
  refine met_o (lv := [(0, .ref (a 1))]) (by decide) (Nat.le_of_ble_eq_true rfl) rfl ?_
  intro p e s m args below meth c ls hx hb hr hml hts hown hlocks hin hP hE hl
  have hown : s.vm.findClass RX4 = some m.cls := hown
  have hK := hE.1
  have hP : va_P D vwC (ofW cs a O) s.heap := hP
  unfold sX4_size at hv
  refine lv_aload_n hx hb dX4_size_0 rfl (lv_at hl 0 rfl) ?_
  refine va_get (D := D) (ci := 4) (v := .int (O.1 0)) (C := RX4) (T := TX4) (N := 5) hx hb hts iw_X4 hown hK hP 1 rfl rfl 0 (by decide) (hts _ w_fl_X4_21) (fun _ h9 => h9) rfl dX4_size_1 ?_
  exact W.iret (v := (O.1 0)) hx hb hr (fun t ht hW => ⟨(O.1 0), rfl, hv, ht⟩) (fun _ h => nomatch h) dX4_size_4 (hlocks := hlocks)
theorem hd_X4_parentOf : yX4_parentOf.cls ≠ "java/lang/invoke/MethodHandle" ∧ yX4_parentOf.cls ≠ "java/lang/invoke/VarHandle" ∧ (parseMethodDescriptor yX4_parentOf.desc).map (fun d => d.parameters.length) = some 1 := by decide +kernel
def sX4_parentOf (O : OF) (p1 : Int32) : Int32 := (if (sX4_has O p1) = true then (O.2 5) p1.toNatClampNeg else (-1 : Int32))
set_option maxHeartbeats 4000000 in
set_option maxRecDepth 100000 in
theorem c_X4_parentOf (l : Launch) (D : va_G) (cs : Nat → ClassId) (a : Nat → Nat) (O : OF) (p1 : Int32) : Met l yX4_parentOf (wc yX4_parentOf cX4_parentOf 2 (some .int)) ({ frames := 1, cells := 0, slots := 0, locals := 21 } : Room) (va_Pc [.ref (a 1), .int p1] (PE D cs (ofW cs a O))) (vp_Si (fun r9 => r9 = (sX4_parentOf O p1))) 0 0 (fun _ => False) := by
  obtain ⟨v, hv⟩ : ∃ v, sX4_parentOf O p1 = v := ⟨_, rfl⟩
  rw [hv]
  refine met_o (lv := [(0, .ref (a 1)), (1, .int p1)]) (by decide) (Nat.le_of_ble_eq_true rfl) rfl ?_
  intro p e s m args below meth c ls hx hb hr hml hts hown hlocks hin hP hE hl
  have hown : s.vm.findClass RX4 = some m.cls := hown
  have hK := hE.1
  have hP : va_P D vwC (ofW cs a O) s.heap := hP
  unfold sX4_parentOf at hv
  refine lv_aload_n hx hb dX4_parentOf_0 rfl (lv_at hl 0 rfl) ?_
  refine lv_iload_n hx hb dX4_parentOf_1 rfl (lv_at hl 1 rfl) ?_
  refine ro_i (b2i (sX4_has O p1)) (run_c (va_runV (As := [.int p1]) (rest := []) ⟨hx, hb, hml, hown, hts⟩ (c_X4_has l D cs a O p1) (cwV 1 hts (good_V w_ml_X4_34 w_im_X4_has w_se_X4_has w_in_X4 w_co_X4_has) rfl rfl rfl ⟨rfl, hd_X4_has⟩ ⟨Nat.le_of_ble_eq_true rfl, Nat.le_of_ble_eq_true rfl⟩) (pe_W (C := RX4) (T := TX4) (N := 5) (ci := 4) (q0 := 1) hP hE rfl rfl) rfl rfl hl.1 rfl (lv_room (Nat.le_of_ble_eq_true rfl)) dX4_parentOf_2 ⟨Nat.zero_le _, Nat.zero_le _⟩)) ?_
  refine join_i (J := 18) (ls := ls) (rest := []) ((if (sX4_has O p1) = true then (O.2 5) p1.toNatClampNeg else (-1 : Int32))) ?_ (fun hJ => ?_)
  · exact W.iret (v := (if (sX4_has O p1) = true then (O.2 5) p1.toNatClampNeg else (-1 : Int32))) hx hb hr (fun t ht hW => ⟨(if (sX4_has O p1) = true then (O.2 5) p1.toNatClampNeg else (-1 : Int32)), rfl, hv, ht⟩) (fun _ h => nomatch h) dX4_parentOf_18 (hlocks := hlocks)
  · refine lv_if_eq (tgt := 17) hx hb dX4_parentOf_5 (by decide) (fun c5 => ?_) (fun c5 => ?_)
    · have c5 := b2i_f c5
      refine lv_iconst (v := (-1)) hx hb dX4_parentOf_17 (by decide) ?_
      exact hJ _ ((if_neg c5).trans rfl)
    · have c5 := b2i_t c5
      refine lv_aload_n hx hb dX4_parentOf_8 rfl (lv_at hl 0 rfl) ?_
      refine va_get (D := D) (ci := 4) (v := .ref (a 5)) (C := RX4) (T := TX4) (N := 5) hx hb hts iw_X4 hown hK hP 1 rfl rfl 2 (by decide) (hts _ w_fl_X4_9) (fun _ h9 => h9) rfl dX4_parentOf_9 ?_
      refine lv_iload_n hx hb dX4_parentOf_12 rfl (lv_at hl 1 rfl) ?_
      refine va_iald (cA := cs 0) (n := 10) (f := (O.2 5)) hx hb hK hP 5 0 rfl rfl (by first | exact X4_in (by assumption) | exact in_X7_isSetting (by assumption)) dX4_parentOf_13 ?_
      refine lv_goto (tgt := 18) hx hb dX4_parentOf_14 (by decide) ?_
      exact hJ _ ((if_pos c5).trans rfl)
theorem hd_X4_revisionOf : yX4_revisionOf.cls ≠ "java/lang/invoke/MethodHandle" ∧ yX4_revisionOf.cls ≠ "java/lang/invoke/VarHandle" ∧ (parseMethodDescriptor yX4_revisionOf.desc).map (fun d => d.parameters.length) = some 1 := by decide +kernel
def sX4_revisionOf (O : OF) (p1 : Int32) : Int32 := (if (sX4_has O p1) = true then (O.2 6) p1.toNatClampNeg else (-1 : Int32))
set_option maxHeartbeats 4000000 in
set_option maxRecDepth 100000 in
theorem c_X4_revisionOf (l : Launch) (D : va_G) (cs : Nat → ClassId) (a : Nat → Nat) (O : OF) (p1 : Int32) : Met l yX4_revisionOf (wc yX4_revisionOf cX4_revisionOf 2 (some .int)) ({ frames := 1, cells := 0, slots := 0, locals := 21 } : Room) (va_Pc [.ref (a 1), .int p1] (PE D cs (ofW cs a O))) (vp_Si (fun r9 => r9 = (sX4_revisionOf O p1))) 0 0 (fun _ => False) := by
  obtain ⟨v, hv⟩ : ∃ v, sX4_revisionOf O p1 = v := ⟨_, rfl⟩
  rw [hv]
  refine met_o (lv := [(0, .ref (a 1)), (1, .int p1)]) (by decide) (Nat.le_of_ble_eq_true rfl) rfl ?_
  intro p e s m args below meth c ls hx hb hr hml hts hown hlocks hin hP hE hl
  have hown : s.vm.findClass RX4 = some m.cls := hown
  have hK := hE.1
  have hP : va_P D vwC (ofW cs a O) s.heap := hP
  unfold sX4_revisionOf at hv
  refine lv_aload_n hx hb dX4_revisionOf_0 rfl (lv_at hl 0 rfl) ?_
  refine lv_iload_n hx hb dX4_revisionOf_1 rfl (lv_at hl 1 rfl) ?_
  refine ro_i (b2i (sX4_has O p1)) (run_c (va_runV (As := [.int p1]) (rest := []) ⟨hx, hb, hml, hown, hts⟩ (c_X4_has l D cs a O p1) (cwV 1 hts (good_V w_ml_X4_34 w_im_X4_has w_se_X4_has w_in_X4 w_co_X4_has) rfl rfl rfl ⟨rfl, hd_X4_has⟩ ⟨Nat.le_of_ble_eq_true rfl, Nat.le_of_ble_eq_true rfl⟩) (pe_W (C := RX4) (T := TX4) (N := 5) (ci := 4) (q0 := 1) hP hE rfl rfl) rfl rfl hl.1 rfl (lv_room (Nat.le_of_ble_eq_true rfl)) dX4_revisionOf_2 ⟨Nat.zero_le _, Nat.zero_le _⟩)) ?_
  refine join_i (J := 18) (ls := ls) (rest := []) ((if (sX4_has O p1) = true then (O.2 6) p1.toNatClampNeg else (-1 : Int32))) ?_ (fun hJ => ?_)
  · exact W.iret (v := (if (sX4_has O p1) = true then (O.2 6) p1.toNatClampNeg else (-1 : Int32))) hx hb hr (fun t ht hW => ⟨(if (sX4_has O p1) = true then (O.2 6) p1.toNatClampNeg else (-1 : Int32)), rfl, hv, ht⟩) (fun _ h => nomatch h) dX4_revisionOf_18 (hlocks := hlocks)
  · refine lv_if_eq (tgt := 17) hx hb dX4_revisionOf_5 (by decide) (fun c5 => ?_) (fun c5 => ?_)
    · have c5 := b2i_f c5
      refine lv_iconst (v := (-1)) hx hb dX4_revisionOf_17 (by decide) ?_
      exact hJ _ ((if_neg c5).trans rfl)
    · have c5 := b2i_t c5
      refine lv_aload_n hx hb dX4_revisionOf_8 rfl (lv_at hl 0 rfl) ?_
      refine va_get (D := D) (ci := 4) (v := .ref (a 6)) (C := RX4) (T := TX4) (N := 5) hx hb hts iw_X4 hown hK hP 1 rfl rfl 3 (by decide) (hts _ w_fl_X4_15) (fun _ h9 => h9) rfl dX4_revisionOf_9 ?_
      refine lv_iload_n hx hb dX4_revisionOf_12 rfl (lv_at hl 1 rfl) ?_
      refine va_iald (cA := cs 0) (n := 10) (f := (O.2 6)) hx hb hK hP 6 0 rfl rfl (by first | exact X4_in (by assumption) | exact in_X7_isSetting (by assumption)) dX4_revisionOf_13 ?_
      refine lv_goto (tgt := 18) hx hb dX4_revisionOf_14 (by decide) ?_
      exact hJ _ ((if_pos c5).trans rfl)
