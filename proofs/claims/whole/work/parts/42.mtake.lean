theorem b2i_fit (b : Bool) : fits .boolean (.int (b2i b)) = true := by cases b <;> rfl
/-- reading the text: the place lies in the text, the row read is an office -/
def RI (M : MS) : Prop := (0 ≤ (M.1.1 3).toInt ∧ (M.1.1 3).toInt ≤ (M.1.1 2).toInt ∧ (M.1.1 2).toInt ≤ 120) ∧ MV (M.1.2 3)
/-- what a reader leaves as it was -/
def PR (M N : MS) : Prop := RI N ∧ (M.1.1 3).toInt ≤ (N.1.1 3).toInt ∧ (∀ k : Nat, k ≠ 3 → k ≠ 5 → k ≠ 6 → N.1.1 k = M.1.1 k) ∧ ∀ j : Nat, j ≠ 3 → N.1.2 j = M.1.2 j
theorem PR.rf {M : MS} (h : RI M) : PR M M := ⟨h, Int.le_refl _, fun _ _ _ _ => rfl, fun _ _ => rfl⟩
theorem PR.tr {M N K : MS} (h : PR M N) (h' : PR N K) : PR M K := ⟨h'.1, Int.le_trans h.2.1 h'.2.1, fun k a b c => (h'.2.2.1 k a b c).trans (h.2.2.1 k a b c), fun j a => (h'.2.2.2 j a).trans (h.2.2.2 j a)⟩
theorem ti_in {M : MS} (h : RI M) (c : ¬ M.1.1 2 ≤ M.1.1 3) : vp_in (M.1.1 3) 120 := by
  have h5 : ¬ (M.1.1 2).toInt ≤ (M.1.1 3).toInt := fun q => c (i32_le.mpr q)
  exact vp_in_iff.mpr ⟨h.1.1, by have := h.1.2.2; omega⟩
theorem PR_at {M : MS} {v : Int32} (B : Bool) (h : RI M) (hv : v = M.1.1 3 ∨ (v = M.1.1 3 + 1 ∧ (M.1.1 3).toInt < (M.1.1 2).toInt)) : PR M (msS (msG M B) 3 v) := by
  have e : v.toInt = (M.1.1 3).toInt ∨ (v.toInt = (M.1.1 3).toInt + 1 ∧ (M.1.1 3).toInt < (M.1.1 2).toInt) := by
    rcases hv with hv | ⟨hv, hl⟩
    · exact Or.inl (by rw [hv])
    · refine Or.inr ⟨?_, hl⟩
      rw [hv]
      exact inc_ti (n := 120) (vp_in_iff.mpr ⟨h.1.1, by have := h.1.2.2; omega⟩) (by omega)
  have h1 := h.1
  refine ⟨⟨?_, h.2⟩, ?_, fun k a _ _ => ?_, fun _ _ => rfl⟩
  · show 0 ≤ v.toInt ∧ v.toInt ≤ (M.1.1 2).toInt ∧ (M.1.1 2).toInt ≤ 120
    omega
  · show (M.1.1 3).toInt ≤ v.toInt
    omega
  · exact if_neg a
theorem PR_s5 {M : MS} (v : Int32) (h : RI M) : PR M (msS M 5 v) := ⟨⟨h.1, h.2⟩, Int.le_refl _, fun _ _ b _ => if_neg b, fun _ _ => rfl⟩
theorem PR_s6 {M : MS} (v : Int32) (h : RI M) : PR M (msS M 6 v) := ⟨⟨h.1, h.2⟩, Int.le_refl _, fun _ _ _ c => if_neg c, fun _ _ => rfl⟩
theorem PR_g {M : MS} (B : Bool) (h : RI M) : PR M (msG M B) := ⟨⟨h.1, h.2⟩, Int.le_refl _, fun _ _ _ _ => rfl, fun _ _ => rfl⟩
theorem PR_row {M : MS} {f : Nat → Int32} (h : RI M) (hf : MV f) : PR M (msA M 3 f) := ⟨⟨h.1, hf⟩, Int.le_refl _, fun _ _ _ _ => rfl, fun _ a => if_neg a⟩
theorem pr_if2 {α : Type} {M : MS} {c : Prop} [Decidable c] {a b : α × MS} (h1 : c → PR M a.2) (h2 : ¬ c → PR M b.2) : PR M (if c then a else b).2 := by
  by_cases h : c
  · rw [if_pos h]; exact h1 h
  · rw [if_neg h]; exact h2 h
theorem pr_if {M : MS} {c : Prop} [Decidable c] {a b : MS} (h1 : c → PR M a) (h2 : ¬ c → PR M b) : PR M (if c then a else b) := by
  by_cases h : c
  · rw [if_pos h]; exact h1 h
  · rw [if_neg h]; exact h2 h
theorem hd_X8_here : yX8_here.cls ≠ "java/lang/invoke/MethodHandle" ∧ yX8_here.cls ≠ "java/lang/invoke/VarHandle" ∧ (parseMethodDescriptor yX8_here.desc).map (fun d => d.parameters.length) = some 0 := by decide +kernel
def sX8_here (M : MS) : Int32 := (if (M.1.1 2) ≤ (M.1.1 3) then (-1 : Int32) else (M.1.2 7) (M.1.1 3).toNatClampNeg)
set_option maxHeartbeats 4000000 in
set_option maxRecDepth 100000 in
theorem c_X8_here (l : Launch) (D : va_G) (cs : Nat → ClassId) (w : Nat → Nat) (M : MS) (hri : RI M) : Met l yX8_here (wc yX8_here cX8_here 1 (some .int)) ({ frames := 0, cells := 0, slots := 0, locals := 0 } : Room) (va_Pc [.ref (w 0)] (PE D cs (mW cs w M))) (vp_Si (fun r9 => r9 = (sX8_here M))) 0 0 (fun _ => False) := by
  obtain ⟨v, hv⟩ : ∃ v, sX8_here M = v := ⟨_, rfl⟩
  rw [hv]
  refine met_o (lv := [(0, .ref (w 0))]) (by decide) (Nat.le_of_ble_eq_true rfl) rfl ?_
  intro p e s m args below meth c ls hx hb hr hml hts hown hlocks hin hP hE hl
  have hown : s.vm.findClass RX8 = some m.cls := hown
  have hK := hE.1
  have hP : va_P D vwC (mW cs w M) s.heap := hP
  unfold sX8_here at hv
  refine lv_aload_n hx hb dX8_here_0 rfl (lv_at hl 0 rfl) ?_
  refine va_get (D := D) (ci := 8) (v := .int (M.1.1 3)) (C := RX8) (T := TX8) (N := 14) hx hb hts iw_X8 hown hK hP 0 rfl rfl 10 (by decide) (hts _ w_fl_X8_109) (fun _ h9 => h9) rfl dX8_here_1 ?_
  refine lv_aload_n hx hb dX8_here_4 rfl (lv_at hl 0 rfl) ?_
  refine va_get (D := D) (ci := 8) (v := .int (M.1.1 2)) (C := RX8) (T := TX8) (N := 14) hx hb hts iw_X8 hown hK hP 0 rfl rfl 9 (by decide) (hts _ w_fl_X8_102) (fun _ h9 => h9) rfl dX8_here_5 ?_
  refine join_i (J := 24) (ls := ls) (rest := []) ((if (M.1.1 2) ≤ (M.1.1 3) then (-1 : Int32) else (M.1.2 7) (M.1.1 3).toNatClampNeg)) ?_ (fun hJ => ?_)
  · exact W.iret (v := (if (M.1.1 2) ≤ (M.1.1 3) then (-1 : Int32) else (M.1.2 7) (M.1.1 3).toNatClampNeg)) hx hb hr (fun t ht hW => ⟨(if (M.1.1 2) ≤ (M.1.1 3) then (-1 : Int32) else (M.1.2 7) (M.1.1 3).toNatClampNeg), rfl, hv, ht⟩) (fun _ h => nomatch h) dX8_here_24 (hlocks := hlocks)
  · refine lv_icmp_ge (tgt := 23) hx hb dX8_here_8 (by decide) (fun c8 => ?_) (fun c8 => ?_)
    · refine lv_iconst (v := (-1)) hx hb dX8_here_23 (by decide) ?_
      exact hJ _ ((if_pos c8).trans rfl)
    · refine lv_aload_n hx hb dX8_here_11 rfl (lv_at hl 0 rfl) ?_
      refine va_get (D := D) (ci := 8) (v := .ref (w 7)) (C := RX8) (T := TX8) (N := 14) hx hb hts iw_X8 hown hK hP 0 rfl rfl 8 (by decide) (hts _ w_fl_X8_29) (fun _ h9 => h9) rfl dX8_here_12 ?_
      refine lv_aload_n hx hb dX8_here_15 rfl (lv_at hl 0 rfl) ?_
      refine va_get (D := D) (ci := 8) (v := .int (M.1.1 3)) (C := RX8) (T := TX8) (N := 14) hx hb hts iw_X8 hown hK hP 0 rfl rfl 10 (by decide) (hts _ w_fl_X8_109) (fun _ h9 => h9) rfl dX8_here_16 ?_
      refine va_iald (cA := cs 0) (n := 120) (f := (M.1.2 7)) hx hb hK hP 7 0 rfl rfl (ti_in hri c8) dX8_here_19 ?_
      refine lv_goto (tgt := 24) hx hb dX8_here_20 (by decide) ?_
      exact hJ _ ((if_neg c8).trans rfl)
theorem here_lt {M : MS} (c : sX8_here M ≠ -1) : (M.1.1 3).toInt < (M.1.1 2).toInt := by
  by_cases e : M.1.1 2 ≤ M.1.1 3
  · refine absurd ?_ c
    unfold sX8_here
    rw [if_pos e]
  · have h5 : ¬ (M.1.1 2).toInt ≤ (M.1.1 3).toInt := fun q => e (i32_le.mpr q)
    omega
theorem hd_X8_take : yX8_take.cls ≠ "java/lang/invoke/MethodHandle" ∧ yX8_take.cls ≠ "java/lang/invoke/VarHandle" ∧ (parseMethodDescriptor yX8_take.desc).map (fun d => d.parameters.length) = some 1 := by decide +kernel
def sX8_take (M : MS) (p1 : Bool) : MS := (msS (msG M (if M.2 = true then (if p1 = true then true else false) else false)) 3 ((M.1.1 3) + (b2i (if (if M.2 = true then (if p1 = true then true else false) else false) = true then true else false))))
set_option maxHeartbeats 4000000 in
set_option maxRecDepth 100000 in
theorem c_X8_take (l : Launch) (D : va_G) (cs : Nat → ClassId) (w : Nat → Nat) (M : MS) (p1 : Bool) (hd : mD w) : Met l yX8_take (wc yX8_take cX8_take 2 none) ({ frames := 0, cells := 0, slots := 0, locals := 0 } : Room) (va_Pc [.ref (w 0), .int (b2i p1)] (PE D cs (mW cs w M))) (va_Qv (fun u : MS => u = (sX8_take M p1)) (fun u t => va_P D vwC (mW cs w u) t.heap) (mA w)) 0 0 (mA w) := by
  obtain ⟨v, hv⟩ : ∃ v, sX8_take M p1 = v := ⟨_, rfl⟩
  rw [hv]
  refine met_o (lv := [(0, .ref (w 0)), (1, .int (b2i p1))]) (by decide) (Nat.le_of_ble_eq_true rfl) rfl ?_
  intro p e s m args below meth c ls hx hb hr hml hts hown hlocks hin hP hE hl
  have hown : s.vm.findClass RX8 = some m.cls := hown
  have hK := hE.1
  have hP : va_P D vwC (mW cs w M) s.heap := hP
  have hS : va_S (mA w) s.heap s.heap [] := va_S.rf
  unfold sX8_take at hv
  refine lv_aload_n hx hb dX8_take_0 rfl (lv_at hl 0 rfl) ?_
  refine lv_aload_n hx hb dX8_take_1 rfl (lv_at hl 0 rfl) ?_
  refine va_get (D := D) (ci := 8) (v := .int (b2i M.2)) (C := RX8) (T := TX8) (N := 14) hx hb hts iw_X8 hown hK hP 0 rfl rfl 11 (by decide) (hts _ w_fl_X8_112) (fun _ h9 => h9) rfl dX8_take_2 ?_
  refine join_i (J := 17) (ls := ls) (rest := [.ref (w 0)]) (b2i (if M.2 = true then (if p1 = true then true else false) else false)) ?_ (fun hJ => ?_)
  · refine va_put (D := D) (ci := 8) (v := .int (b2i (if M.2 = true then (if p1 = true then true else false) else false))) (ty := .boolean) (C := RX8) (T := TX8) (N := 14) hx hb hts iw_X8 tyX8 tyX8_ok nmX8 hown hK hP (m_D cs M hd) hS 0 rfl rfl 11 (by decide) (hts _ w_fl_X8_112) (fun _ h9 => h9) rfl (by decide +kernel) (b2i_nar _) (b2i_fit _) (Nat.le_of_ble_eq_true rfl) dX8_take_17 (fun H locs hP _ hS => ?_)
    have hP : va_P D vwC (mW cs w (msG M (if M.2 = true then (if p1 = true then true else false) else false))) H := hP
    refine lv_aload_n hx hb dX8_take_20 rfl (lv_at hl 0 rfl) ?_
    refine lv_dup hx hb dX8_take_21 rfl ?_
    refine va_get (D := D) (ci := 8) (v := .int (M.1.1 3)) (C := RX8) (T := TX8) (N := 14) hx hb hts iw_X8 hown hK hP 0 rfl rfl 10 (by decide) (hts _ w_fl_X8_109) (fun _ h9 => h9) rfl dX8_take_22 ?_
    refine lv_aload_n hx hb dX8_take_25 rfl (lv_at hl 0 rfl) ?_
    refine va_get (D := D) (ci := 8) (v := .int (b2i (if M.2 = true then (if p1 = true then true else false) else false))) (C := RX8) (T := TX8) (N := 14) hx hb hts iw_X8 hown hK hP 0 rfl rfl 11 (by decide) (hts _ w_fl_X8_112) (fun _ h9 => h9) rfl dX8_take_26 ?_
    refine join_i (J := 37) (ls := ls) (rest := [.int (M.1.1 3), .ref (w 0)]) (b2i (if (if M.2 = true then (if p1 = true then true else false) else false) = true then true else false)) ?_ (fun hJ => ?_)
    · refine lv_iadd hx hb dX8_take_37 ?_
      refine va_put (D := D) (ci := 8) (v := .int ((M.1.1 3) + (b2i (if (if M.2 = true then (if p1 = true then true else false) else false) = true then true else false)))) (ty := .int) (C := RX8) (T := TX8) (N := 14) hx hb hts iw_X8 tyX8 tyX8_ok nmX8 hown hK hP (m_D cs (msG M (if M.2 = true then (if p1 = true then true else false) else false)) hd) hS 0 rfl rfl 10 (by decide) (hts _ w_fl_X8_109) (fun _ h9 => h9) rfl (by decide +kernel) rfl rfl (Nat.le_of_ble_eq_true rfl) dX8_take_38 (fun H locs hP _ hS => ?_)
      have hP : va_P D vwC (mW cs w (msS (msG M (if M.2 = true then (if p1 = true then true else false) else false)) 3 ((M.1.1 3) + (b2i (if (if M.2 = true then (if p1 = true then true else false) else false) = true then true else false))))) H := hP
      exact W.vret hx hb hr (fun t ht hW => ⟨⟨(msS (msG M (if M.2 = true then (if p1 = true then true else false) else false)) 3 ((M.1.1 3) + (b2i (if (if M.2 = true then (if p1 = true then true else false) else false) = true then true else false)))), rfl, hv, pw ht hP⟩, hS.F ht⟩) hS.2.2 dX8_take_41 (hlocks := hlocks)
    · refine lv_if_eq (tgt := 36) hx hb dX8_take_29 (by decide) (fun c29 => ?_) (fun c29 => ?_)
      · have c29 := b2i_f c29
        refine lv_iconst (v := 0) hx hb dX8_take_36 (by decide) ?_
        exact hJ _ (congrArg b2i ((if_neg c29).trans rfl))
      · have c29 := b2i_t c29
        refine lv_iconst (v := 1) hx hb dX8_take_32 (by decide) ?_
        refine lv_goto (tgt := 37) hx hb dX8_take_33 (by decide) ?_
        exact hJ _ (congrArg b2i ((if_pos c29).trans rfl))
  · refine lv_if_eq (tgt := 16) hx hb dX8_take_5 (by decide) (fun c5 => ?_) (fun c5 => ?_)
    · have c5 := b2i_f c5
      refine lv_iconst (v := 0) hx hb dX8_take_16 (by decide) ?_
      exact hJ _ (congrArg b2i ((if_neg c5).trans rfl))
    · have c5 := b2i_t c5
      refine lv_iload_n hx hb dX8_take_8 rfl (lv_at hl 1 rfl) ?_
      refine lv_if_eq (tgt := 16) hx hb dX8_take_9 (by decide) (fun c9 => ?_) (fun c9 => ?_)
      · have c9 := b2i_f c9
        refine lv_iconst (v := 0) hx hb dX8_take_16 (by decide) ?_
        exact hJ _ (congrArg b2i ((if_pos c5).trans ((if_neg c9).trans rfl)))
      · have c9 := b2i_t c9
        refine lv_iconst (v := 1) hx hb dX8_take_12 (by decide) ?_
        refine lv_goto (tgt := 17) hx hb dX8_take_13 (by decide) ?_
        exact hJ _ (congrArg b2i ((if_pos c5).trans ((if_pos c9).trans rfl)))
theorem PR_take {M : MS} {b : Bool} (h : RI M) (hb : b = true → (M.1.1 3).toInt < (M.1.1 2).toInt) : PR M (sX8_take M b) := by
  unfold sX8_take
  refine PR_at _ h ?_
  by_cases m : M.2 = true
  · by_cases c : b = true
    · refine Or.inr ⟨?_, hb c⟩
      rw [if_pos m, if_pos c]
      rfl
    · refine Or.inl ?_
      rw [if_pos m, if_neg c]
      exact Int32.add_zero _
  · refine Or.inl ?_
    rw [if_neg m]
    exact Int32.add_zero _
theorem PR_th {M : MS} {c : Int32} (h : RI M) (hc : c ≠ -1) : PR M (sX8_take M (if sX8_here M = c then true else false)) := by
  refine PR_take h (fun e => here_lt (fun q => ?_))
  by_cases x : sX8_here M = c
  · exact hc (x.symm.trans q)
  · rw [if_neg x] at e; exact nomatch e
theorem hd_X8_digit : yX8_digit.cls ≠ "java/lang/invoke/MethodHandle" ∧ yX8_digit.cls ≠ "java/lang/invoke/VarHandle" ∧ (parseMethodDescriptor yX8_digit.desc).map (fun d => d.parameters.length) = some 2 := by decide +kernel
def sX8_digit (M : MS) (p1 : Int32) (p2 : Int32) : Int32 × MS := ((if (((sX8_take M (sX8_in (((sX8_here M) - 48).toInt64) p1.toInt64 p2.toInt64))).2) = true then (sX8_here M) - 48 else (0 : Int32)), ((sX8_take M (sX8_in (((sX8_here M) - 48).toInt64) p1.toInt64 p2.toInt64))))
set_option maxHeartbeats 4000000 in
set_option maxRecDepth 100000 in
theorem c_X8_digit (l : Launch) (D : va_G) (cs : Nat → ClassId) (w : Nat → Nat) (M : MS) (p1 : Int32) (p2 : Int32) (hd : mD w) (hri : RI M) : Met l yX8_digit (wc yX8_digit cX8_digit 4 (some .int)) ({ frames := 1, cells := 0, slots := 0, locals := 25 } : Room) (va_Pc [.ref (w 0), .int p1, .int p2] (PE D cs (mW cs w M))) (va_Qi (fun (r9 : Int32) (u : MS) => r9 = (sX8_digit M p1 p2).1 ∧ u = (sX8_digit M p1 p2).2) (fun u t => va_P D vwC (mW cs w u) t.heap) (mA w)) 0 0 (mA w) := by
  obtain ⟨v, hv⟩ : ∃ v, sX8_digit M p1 p2 = v := ⟨_, rfl⟩
  rw [hv]
  refine met_o (lv := [(0, .ref (w 0)), (1, .int p1), (2, .int p2)]) (by decide) (Nat.le_of_ble_eq_true rfl) rfl ?_
  intro p e s m args below meth c ls hx hb hr hml hts hown hlocks hin hP hE hl
  have hown : s.vm.findClass RX8 = some m.cls := hown
  have hK := hE.1
  have hP : va_P D vwC (mW cs w M) s.heap := hP
  have hS : va_S (mA w) s.heap s.heap [] := va_S.rf
  unfold sX8_digit at hv
  refine lv_aload_n hx hb dX8_digit_0 rfl (lv_at hl 0 rfl) ?_
  refine ro_i (sX8_here M) (run_c (va_runV (As := []) (rest := []) ⟨hx, hb, hml, hown, hts⟩ (c_X8_here l D cs w M hri) (cwV 0 hts (good_V w_ml_X8_116 w_im_X8_here w_se_X8_here w_in_X8 w_co_X8_here) rfl rfl rfl ⟨rfl, hd_X8_here⟩ ⟨Nat.le_of_ble_eq_true rfl, Nat.le_of_ble_eq_true rfl⟩) (pe_W (C := RX8) (T := TX8) (N := 14) (ci := 8) (q0 := 0) hP hE rfl rfl) rfl rfl hl.1 rfl (lv_room (Nat.le_of_ble_eq_true rfl)) dX8_digit_1 ⟨Nat.zero_le _, Nat.zero_le _⟩)) ?_
  refine lv_bipush (v := 48) hx hb dX8_digit_4 (by decide) ?_
  refine lv_isub hx hb dX8_digit_6 ?_
  refine lv_istore_n (lv' := [(3, .int ((sX8_here M) - 48)), (0, .ref (w 0)), (1, .int p1), (2, .int p2)]) hx hb dX8_digit_7 rfl hl (by decide) rfl (fun ls hl => ?_)
  refine lv_aload_n hx hb dX8_digit_8 rfl (lv_at hl 1 rfl) ?_
  refine lv_iload_n hx hb dX8_digit_9 rfl (lv_at hl 0 rfl) ?_
  refine lv_i2l hx hb dX8_digit_10 rfl ?_
  refine lv_iload_n hx hb dX8_digit_11 rfl (lv_at hl 2 rfl) ?_
  refine lv_i2l hx hb dX8_digit_12 rfl ?_
  refine lv_iload_n hx hb dX8_digit_13 rfl (lv_at hl 3 rfl) ?_
  refine lv_i2l hx hb dX8_digit_14 rfl ?_
  refine ro_i (b2i (sX8_in (((sX8_here M) - 48).toInt64) p1.toInt64 p2.toInt64)) (run_c (va_runS (As := [.long (((sX8_here M) - 48).toInt64), .long p1.toInt64, .long p2.toInt64]) (rest := [.ref (w 0)]) ⟨hx, hb, hml, hown, hts⟩ (c_X8_in l D cs (((sX8_here M) - 48).toInt64) p1.toInt64 p2.toInt64) (cwS 3 hts (good_S w_ml_X8_42 w_st_X8_in w_in_X8 w_co_X8_in) rfl rfl rfl ⟨rfl, hd_X8_in⟩ ⟨Nat.le_of_ble_eq_true rfl, Nat.le_of_ble_eq_true rfl⟩) (pe_S (p_nil D _) hE) rfl rfl hl.1 rfl (lv_room (Nat.le_of_ble_eq_true rfl)) dX8_digit_15 ⟨Nat.zero_le _, Nat.zero_le _⟩)) ?_
  obtain ⟨G18, hG18⟩ : ∃ G, sX8_take M (sX8_in (((sX8_here M) - 48).toInt64) p1.toInt64 p2.toInt64) = G := ⟨_, rfl⟩
  have k18 := (c_X8_take l D cs w M (sX8_in (((sX8_here M) - 48).toInt64) p1.toInt64 p2.toInt64) hd)
  rw [hG18] at k18
  rw [hG18] at hv
  refine w_v (G18) (va_runV (As := [.int (b2i (sX8_in (((sX8_here M) - 48).toInt64) p1.toInt64 p2.toInt64))]) (rest := []) ⟨hx, hb, hml, hown, hts⟩ k18 (cwV 1 hts (good_V w_ml_X8_120 w_im_X8_take w_se_X8_take w_in_X8 w_co_X8_take) rfl rfl rfl ⟨rfl, hd_X8_take⟩ ⟨Nat.le_of_ble_eq_true rfl, Nat.le_of_ble_eq_true rfl⟩) (pe_W (C := RX8) (T := TX8) (N := 14) (ci := 8) (q0 := 0) hP hE rfl rfl) rfl rfl hl.1 rfl (lv_room (Nat.le_of_ble_eq_true rfl)) dX8_digit_18 ⟨Nat.zero_le _, Nat.zero_le _⟩) hS (fun _ _ h => h) (fun _ h => h) (fun t locs hB hz hk hS => ?_)
  have hP : va_P D vwC (mW cs w (G18)) t.heap := hB
  refine lv_aload_n hx hb dX8_digit_21 rfl (lv_at hl 1 rfl) ?_
  refine va_get (D := D) (ci := 8) (v := .int (b2i ((G18).2))) (C := RX8) (T := TX8) (N := 14) hx hb hts iw_X8 hown hK hP 0 rfl rfl 11 (by decide) (hts _ w_fl_X8_112) (fun _ h9 => h9) rfl dX8_digit_22 ?_
  refine join_i (J := 33) (ls := ls) (rest := []) ((if ((G18).2) = true then (sX8_here M) - 48 else (0 : Int32))) ?_ (fun hJ => ?_)
  · exact W.iret (v := (if ((G18).2) = true then (sX8_here M) - 48 else (0 : Int32))) hx hb hr (fun t ht hW => ⟨⟨(if ((G18).2) = true then (sX8_here M) - 48 else (0 : Int32)), (G18), rfl, pair_eq hv, pw ht hP⟩, hS.F ht⟩) hS.2.2 dX8_digit_33 (hlocks := hlocks)
  · refine lv_if_eq (tgt := 32) hx hb dX8_digit_25 (by decide) (fun c25 => ?_) (fun c25 => ?_)
    · have c25 := b2i_f c25
      refine lv_iconst (v := 0) hx hb dX8_digit_32 (by decide) ?_
      exact hJ _ ((if_neg c25).trans rfl)
    · have c25 := b2i_t c25
      refine lv_iload_n hx hb dX8_digit_28 rfl (lv_at hl 0 rfl) ?_
      refine lv_goto (tgt := 33) hx hb dX8_digit_29 (by decide) ?_
      exact hJ _ ((if_pos c25).trans rfl)
theorem PR_digit {M : MS} {p1 p2 : Int32} (h : RI M) (h1 : 0 ≤ p1.toInt) : PR M (sX8_digit M p1 p2).2 := by
  show PR M (sX8_take M _)
  refine PR_take h (fun e => here_lt (fun q => ?_))
  have e1 := (in_t e).1
  rw [q] at e1
  have e2 : (((-1 : Int32) - 48).toInt64).toInt = -49 := by decide
  rw [e2, Int32.toInt_toInt64] at e1
  omega
theorem hd_X8_number : yX8_number.cls ≠ "java/lang/invoke/MethodHandle" ∧ yX8_number.cls ≠ "java/lang/invoke/VarHandle" ∧ (parseMethodDescriptor yX8_number.desc).map (fun d => d.parameters.length) = some 2 := by decide +kernel
def sX8_number (M : MS) (p1 : Int32) (p2 : Int32) : Int32 × MS := (if (if ((((sX8_digit M p1 9)).2).2) = true then (if (((sX8_digit M p1 9)).1) ≤ 0 then false else (if (sX8_in ((sX8_here (((sX8_digit M p1 9)).2)).toInt64) (48 : Int64) (57 : Int64)) = true then true else false)) else false) = true then (if p2 < (((10 * (((sX8_digit M p1 9)).1)) + (sX8_here (((sX8_digit M p1 9)).2))) - 48) then (((sX8_digit M p1 9)).1, (((sX8_digit M p1 9)).2)) else ((10 * (((sX8_digit M p1 9)).1)) + (((sX8_digit (((sX8_digit M p1 9)).2) 0 9)).1), (((sX8_digit (((sX8_digit M p1 9)).2) 0 9)).2))) else (((sX8_digit M p1 9)).1, (((sX8_digit M p1 9)).2)))
set_option maxHeartbeats 4000000 in
set_option maxRecDepth 100000 in
theorem c_X8_number (l : Launch) (D : va_G) (cs : Nat → ClassId) (w : Nat → Nat) (M : MS) (p1 : Int32) (p2 : Int32) (hd : mD w) (hri : RI M) (h1 : 0 ≤ p1.toInt) : Met l yX8_number (wc yX8_number cX8_number 5 (some .int)) ({ frames := 2, cells := 0, slots := 0, locals := 48 } : Room) (va_Pc [.ref (w 0), .int p1, .int p2] (PE D cs (mW cs w M))) (va_Qi (fun (r9 : Int32) (u : MS) => r9 = (sX8_number M p1 p2).1 ∧ u = (sX8_number M p1 p2).2) (fun u t => va_P D vwC (mW cs w u) t.heap) (mA w)) 0 0 (mA w) := by
  obtain ⟨v, hv⟩ : ∃ v, sX8_number M p1 p2 = v := ⟨_, rfl⟩
  rw [hv]
  refine met_o (lv := [(0, .ref (w 0)), (1, .int p1), (2, .int p2)]) (by decide) (Nat.le_of_ble_eq_true rfl) rfl ?_
  intro p e s m args below meth c ls hx hb hr hml hts hown hlocks hin hP hE hl
  have hown : s.vm.findClass RX8 = some m.cls := hown
  have hK := hE.1
  have hP : va_P D vwC (mW cs w M) s.heap := hP
  have hS : va_S (mA w) s.heap s.heap [] := va_S.rf
  unfold sX8_number at hv
  refine lv_aload_n hx hb dX8_number_0 rfl (lv_at hl 0 rfl) ?_
  refine lv_iload_n hx hb dX8_number_1 rfl (lv_at hl 1 rfl) ?_
  refine lv_bipush (v := 9) hx hb dX8_number_2 (by decide) ?_
  obtain ⟨G4, hG4⟩ : ∃ G, sX8_digit M p1 9 = G := ⟨_, rfl⟩
  have k4 := (c_X8_digit l D cs w M p1 9 hd hri)
  rw [hG4] at k4
  rw [hG4] at hv
  refine w_i (G4) (va_runV (As := [.int p1, .int 9]) (rest := []) ⟨hx, hb, hml, hown, hts⟩ k4 (cwV 2 hts (good_V w_ml_X8_124 w_im_X8_digit w_se_X8_digit w_in_X8 w_co_X8_digit) rfl rfl rfl ⟨rfl, hd_X8_digit⟩ ⟨Nat.le_of_ble_eq_true rfl, Nat.le_of_ble_eq_true rfl⟩) (pe_W (C := RX8) (T := TX8) (N := 14) (ci := 8) (q0 := 0) hP hE rfl rfl) rfl rfl hl.1 rfl (lv_room (Nat.le_of_ble_eq_true rfl)) dX8_number_4 ⟨Nat.zero_le _, Nat.zero_le _⟩) hS (fun _ _ h => h) (fun _ h => h) (fun t locs hB hz hk hS => ?_)
  have hP : va_P D vwC (mW cs w ((G4).2)) t.heap := hB
  have g4 : RI G4.2 := by rw [← hG4]; exact (PR_digit hri h1).1
  refine lv_istore_n (lv' := [(3, .int ((G4).1)), (0, .ref (w 0)), (1, .int p1), (2, .int p2)]) hx hb dX8_number_7 rfl hl (by decide) rfl (fun ls hl => ?_)
  refine lv_aload_n hx hb dX8_number_8 rfl (lv_at hl 1 rfl) ?_
  refine va_get (D := D) (ci := 8) (v := .int (b2i (((G4).2).2))) (C := RX8) (T := TX8) (N := 14) hx hb hts iw_X8 hown hK hP 0 rfl rfl 11 (by decide) (hts _ w_fl_X8_112) (fun _ h9 => h9) rfl dX8_number_9 ?_
  refine join_i (J := 41) (ls := ls) (rest := []) (b2i (if (((G4).2).2) = true then (if ((G4).1) ≤ 0 then false else (if (sX8_in ((sX8_here ((G4).2)).toInt64) (48 : Int64) (57 : Int64)) = true then true else false)) else false)) ?_ (fun hJ => ?_)
  · refine lv_istore (lv' := [(4, .int (b2i (if (((G4).2).2) = true then (if ((G4).1) ≤ 0 then false else (if (sX8_in ((sX8_here ((G4).2)).toInt64) (48 : Int64) (57 : Int64)) = true then true else false)) else false))), (3, .int ((G4).1)), (0, .ref (w 0)), (1, .int p1), (2, .int p2)]) hx hb dX8_number_41 hl (by decide) rfl (fun ls hl => ?_)
    refine lv_iload hx hb dX8_number_43 (lv_at hl 0 rfl) ?_
    refine lv_if_eq (tgt := 77) hx hb dX8_number_45 (by decide) (fun c45 => ?_) (fun c45 => ?_)
    · have c45 := b2i_f c45
      have hv := (if_neg c45).symm.trans hv
      refine lv_iload_n hx hb dX8_number_77 rfl (lv_at hl 1 rfl) ?_
      exact W.iret (v := (G4).1) hx hb hr (fun t ht hW => ⟨⟨(G4).1, ((G4).2), rfl, pair_eq hv, pw ht hP⟩, hS.F ht⟩) hS.2.2 dX8_number_78 (hlocks := hlocks)
    · have c45 := b2i_t c45
      have hv := (if_pos c45).symm.trans hv
      refine lv_bipush (v := 10) hx hb dX8_number_48 (by decide) ?_
      refine lv_iload_n hx hb dX8_number_50 rfl (lv_at hl 1 rfl) ?_
      refine lv_imul hx hb dX8_number_51 ?_
      refine lv_aload_n hx hb dX8_number_52 rfl (lv_at hl 2 rfl) ?_
      refine ro_i (sX8_here ((G4).2)) (run_c (va_runV (As := []) (rest := [.int (10 * ((G4).1))]) ⟨hx, hb, hml, hown, hts⟩ (c_X8_here l D cs w ((G4).2) g4) (cwV 0 hts (good_V w_ml_X8_116 w_im_X8_here w_se_X8_here w_in_X8 w_co_X8_here) rfl rfl rfl ⟨rfl, hd_X8_here⟩ ⟨Nat.le_of_ble_eq_true rfl, Nat.le_of_ble_eq_true rfl⟩) (pe_W (C := RX8) (T := TX8) (N := 14) (ci := 8) (q0 := 0) hP hE rfl rfl) rfl rfl hl.1 rfl (lv_room (Nat.le_of_ble_eq_true rfl)) dX8_number_53 ⟨Nat.zero_le _, Nat.zero_le _⟩)) ?_
      refine lv_iadd hx hb dX8_number_56 ?_
      refine lv_bipush (v := 48) hx hb dX8_number_57 (by decide) ?_
      refine lv_isub hx hb dX8_number_59 ?_
      refine lv_iload_n hx hb dX8_number_60 rfl (lv_at hl 4 rfl) ?_
      refine lv_icmp_gt (tgt := 77) hx hb dX8_number_61 (by decide) (fun c61 => ?_) (fun c61 => ?_)
      · have hv := (if_pos c61).symm.trans hv
        refine lv_iload_n hx hb dX8_number_77 rfl (lv_at hl 1 rfl) ?_
        exact W.iret (v := (G4).1) hx hb hr (fun t ht hW => ⟨⟨(G4).1, ((G4).2), rfl, pair_eq hv, pw ht hP⟩, hS.F ht⟩) hS.2.2 dX8_number_78 (hlocks := hlocks)
      · have hv := (if_neg c61).symm.trans hv
        refine lv_bipush (v := 10) hx hb dX8_number_64 (by decide) ?_
        refine lv_iload_n hx hb dX8_number_66 rfl (lv_at hl 1 rfl) ?_
        refine lv_imul hx hb dX8_number_67 ?_
        refine lv_aload_n hx hb dX8_number_68 rfl (lv_at hl 2 rfl) ?_
        refine lv_iconst (v := 0) hx hb dX8_number_69 (by decide) ?_
        refine lv_bipush (v := 9) hx hb dX8_number_70 (by decide) ?_
        obtain ⟨G72, hG72⟩ : ∃ G, sX8_digit ((G4).2) 0 9 = G := ⟨_, rfl⟩
        have k72 := (c_X8_digit l D cs w ((G4).2) 0 9 hd g4)
        rw [hG72] at k72
        rw [hG72] at hv
        refine w_i (G72) (va_runV (As := [.int 0, .int 9]) (rest := [.int (10 * ((G4).1))]) ⟨hx, hb, hml, hown, hts⟩ k72 (cwV 2 hts (good_V w_ml_X8_124 w_im_X8_digit w_se_X8_digit w_in_X8 w_co_X8_digit) rfl rfl rfl ⟨rfl, hd_X8_digit⟩ ⟨Nat.le_of_ble_eq_true rfl, Nat.le_of_ble_eq_true rfl⟩) (pe_W (C := RX8) (T := TX8) (N := 14) (ci := 8) (q0 := 0) hP hE rfl rfl) rfl rfl hl.1 rfl (lv_room (Nat.le_of_ble_eq_true rfl)) dX8_number_72 ⟨Nat.zero_le _, Nat.zero_le _⟩) hS (fun _ _ h => h) (fun _ h => h) (fun t locs hB hz hk hS => ?_)
        have hP : va_P D vwC (mW cs w ((G72).2)) t.heap := hB
        refine lv_iadd hx hb dX8_number_75 ?_
        refine lv_istore_n (lv' := [(3, .int ((10 * ((G4).1)) + ((G72).1))), (4, .int (b2i (if (((G4).2).2) = true then (if ((G4).1) ≤ 0 then false else (if (sX8_in ((sX8_here ((G4).2)).toInt64) (48 : Int64) (57 : Int64)) = true then true else false)) else false))), (0, .ref (w 0)), (1, .int p1), (2, .int p2)]) hx hb dX8_number_76 rfl hl (by decide) rfl (fun ls hl => ?_)
        refine lv_iload_n hx hb dX8_number_77 rfl (lv_at hl 0 rfl) ?_
        exact W.iret (v := (10 * ((G4).1)) + ((G72).1)) hx hb hr (fun t ht hW => ⟨⟨(10 * ((G4).1)) + ((G72).1), ((G72).2), rfl, pair_eq hv, pw ht hP⟩, hS.F ht⟩) hS.2.2 dX8_number_78 (hlocks := hlocks)
  · refine lv_if_eq (tgt := 40) hx hb dX8_number_12 (by decide) (fun c12 => ?_) (fun c12 => ?_)
    · have c12 := b2i_f c12
      refine lv_iconst (v := 0) hx hb dX8_number_40 (by decide) ?_
      exact hJ _ (congrArg b2i ((if_neg c12).trans rfl))
    · have c12 := b2i_t c12
      refine lv_iload_n hx hb dX8_number_15 rfl (lv_at hl 0 rfl) ?_
      refine lv_if_le (tgt := 40) hx hb dX8_number_16 (by decide) (fun c16 => ?_) (fun c16 => ?_)
      · refine lv_iconst (v := 0) hx hb dX8_number_40 (by decide) ?_
        exact hJ _ (congrArg b2i ((if_pos c12).trans ((if_pos c16).trans rfl)))
      · refine lv_aload_n hx hb dX8_number_19 rfl (lv_at hl 1 rfl) ?_
        refine ro_i (sX8_here ((G4).2)) (run_c (va_runV (As := []) (rest := []) ⟨hx, hb, hml, hown, hts⟩ (c_X8_here l D cs w ((G4).2) g4) (cwV 0 hts (good_V w_ml_X8_116 w_im_X8_here w_se_X8_here w_in_X8 w_co_X8_here) rfl rfl rfl ⟨rfl, hd_X8_here⟩ ⟨Nat.le_of_ble_eq_true rfl, Nat.le_of_ble_eq_true rfl⟩) (pe_W (C := RX8) (T := TX8) (N := 14) (ci := 8) (q0 := 0) hP hE rfl rfl) rfl rfl hl.1 rfl (lv_room (Nat.le_of_ble_eq_true rfl)) dX8_number_20 ⟨Nat.zero_le _, Nat.zero_le _⟩)) ?_
        refine lv_i2l hx hb dX8_number_23 rfl ?_
        refine lv_ldc2 (v := 48) hx hb hown (hts _ w_cn_X8_128) dX8_number_24 ?_
        refine lv_ldc2 (v := 57) hx hb hown (hts _ w_cn_X8_130) dX8_number_27 ?_
        refine ro_i (b2i (sX8_in ((sX8_here ((G4).2)).toInt64) (48 : Int64) (57 : Int64))) (run_c (va_runS (As := [.long ((sX8_here ((G4).2)).toInt64), .long (48 : Int64), .long (57 : Int64)]) (rest := []) ⟨hx, hb, hml, hown, hts⟩ (c_X8_in l D cs ((sX8_here ((G4).2)).toInt64) (48 : Int64) (57 : Int64)) (cwS 3 hts (good_S w_ml_X8_42 w_st_X8_in w_in_X8 w_co_X8_in) rfl rfl rfl ⟨rfl, hd_X8_in⟩ ⟨Nat.le_of_ble_eq_true rfl, Nat.le_of_ble_eq_true rfl⟩) (pe_S (p_nil D _) hE) rfl rfl hl.1 rfl (lv_room (Nat.le_of_ble_eq_true rfl)) dX8_number_30 ⟨Nat.zero_le _, Nat.zero_le _⟩)) ?_
        refine lv_if_eq (tgt := 40) hx hb dX8_number_33 (by decide) (fun c33 => ?_) (fun c33 => ?_)
        · have c33 := b2i_f c33
          refine lv_iconst (v := 0) hx hb dX8_number_40 (by decide) ?_
          exact hJ _ (congrArg b2i ((if_pos c12).trans ((if_neg c16).trans ((if_neg c33).trans rfl))))
        · have c33 := b2i_t c33
          refine lv_iconst (v := 1) hx hb dX8_number_36 (by decide) ?_
          refine lv_goto (tgt := 41) hx hb dX8_number_37 (by decide) ?_
          exact hJ _ (congrArg b2i ((if_pos c12).trans ((if_neg c16).trans ((if_pos c33).trans rfl))))
theorem PR_number {M : MS} {p1 p2 : Int32} (h : RI M) (h1 : 0 ≤ p1.toInt) : PR M (sX8_number M p1 p2).2 := by
  have g := PR_digit (p2 := 9) h h1
  unfold sX8_number
  refine pr_if2 (fun _ => ?_) (fun _ => ?_)
  · refine pr_if2 (fun _ => ?_) (fun _ => ?_)
    · exact g
    · exact g.tr (PR_digit g.1 (by decide))
  · exact g
theorem hd_X8_goes : yX8_goes.cls ≠ "java/lang/invoke/MethodHandle" ∧ yX8_goes.cls ≠ "java/lang/invoke/VarHandle" ∧ (parseMethodDescriptor yX8_goes.desc).map (fun d => d.parameters.length) = some 1 := by decide +kernel
def sX8_goes (M : MS) (p1 : Bool) : Bool × MS := ((if M.2 = true then (if p1 = true then true else false) else false), (msS M 5 ((M.1.1 5) + (b2i (if M.2 = true then (if p1 = true then false else true) else false)))))
set_option maxHeartbeats 4000000 in
set_option maxRecDepth 100000 in
theorem c_X8_goes (l : Launch) (D : va_G) (cs : Nat → ClassId) (w : Nat → Nat) (M : MS) (p1 : Bool) (hd : mD w) : Met l yX8_goes (wc yX8_goes cX8_goes 2 (some .boolean)) ({ frames := 0, cells := 0, slots := 0, locals := 0 } : Room) (va_Pc [.ref (w 0), .int (b2i p1)] (PE D cs (mW cs w M))) (va_Qi (fun (r9 : Int32) (u : MS) => r9 = b2i (sX8_goes M p1).1 ∧ u = (sX8_goes M p1).2) (fun u t => va_P D vwC (mW cs w u) t.heap) (mA w)) 0 0 (mA w) := by
  obtain ⟨v, hv⟩ : ∃ v, sX8_goes M p1 = v := ⟨_, rfl⟩
  rw [hv]
  refine met_o (lv := [(0, .ref (w 0)), (1, .int (b2i p1))]) (by decide) (Nat.le_of_ble_eq_true rfl) rfl ?_
  intro p e s m args below meth c ls hx hb hr hml hts hown hlocks hin hP hE hl
  have hown : s.vm.findClass RX8 = some m.cls := hown
  have hK := hE.1
  have hP : va_P D vwC (mW cs w M) s.heap := hP
  have hS : va_S (mA w) s.heap s.heap [] := va_S.rf
  unfold sX8_goes at hv
  refine lv_aload_n hx hb dX8_goes_0 rfl (lv_at hl 0 rfl) ?_
  refine lv_dup hx hb dX8_goes_1 rfl ?_
  refine va_get (D := D) (ci := 8) (v := .int (M.1.1 5)) (C := RX8) (T := TX8) (N := 14) hx hb hts iw_X8 hown hK hP 0 rfl rfl 12 (by decide) (hts _ w_fl_X8_132) (fun _ h9 => h9) rfl dX8_goes_2 ?_
  refine lv_aload_n hx hb dX8_goes_5 rfl (lv_at hl 0 rfl) ?_
  refine va_get (D := D) (ci := 8) (v := .int (b2i M.2)) (C := RX8) (T := TX8) (N := 14) hx hb hts iw_X8 hown hK hP 0 rfl rfl 11 (by decide) (hts _ w_fl_X8_112) (fun _ h9 => h9) rfl dX8_goes_6 ?_
  refine join_i (J := 21) (ls := ls) (rest := [.int (M.1.1 5), .ref (w 0)]) (b2i (if M.2 = true then (if p1 = true then false else true) else false)) ?_ (fun hJ => ?_)
  · refine lv_iadd hx hb dX8_goes_21 ?_
    refine va_put (D := D) (ci := 8) (v := .int ((M.1.1 5) + (b2i (if M.2 = true then (if p1 = true then false else true) else false)))) (ty := .int) (C := RX8) (T := TX8) (N := 14) hx hb hts iw_X8 tyX8 tyX8_ok nmX8 hown hK hP (m_D cs M hd) hS 0 rfl rfl 12 (by decide) (hts _ w_fl_X8_132) (fun _ h9 => h9) rfl (by decide +kernel) rfl rfl (Nat.le_of_ble_eq_true rfl) dX8_goes_22 (fun H locs hP _ hS => ?_)
    have hP : va_P D vwC (mW cs w (msS M 5 ((M.1.1 5) + (b2i (if M.2 = true then (if p1 = true then false else true) else false))))) H := hP
    refine lv_aload_n hx hb dX8_goes_25 rfl (lv_at hl 0 rfl) ?_
    refine va_get (D := D) (ci := 8) (v := .int (b2i M.2)) (C := RX8) (T := TX8) (N := 14) hx hb hts iw_X8 hown hK hP 0 rfl rfl 11 (by decide) (hts _ w_fl_X8_112) (fun _ h9 => h9) rfl dX8_goes_26 ?_
    refine join_i (J := 41) (ls := ls) (rest := []) (b2i (if M.2 = true then (if p1 = true then true else false) else false)) ?_ (fun hJ => ?_)
    · exact W.zret (ty := .boolean) (v := b2i (if M.2 = true then (if p1 = true then true else false) else false)) hx hb hr (b2i_nar (if M.2 = true then (if p1 = true then true else false) else false)) (fun t ht hW => ⟨⟨b2i (if M.2 = true then (if p1 = true then true else false) else false), (msS M 5 ((M.1.1 5) + (b2i (if M.2 = true then (if p1 = true then false else true) else false)))), rfl, pairb_eq hv, pw ht hP⟩, hS.F ht⟩) hS.2.2 dX8_goes_41 (hlocks := hlocks)
    · refine lv_if_eq (tgt := 40) hx hb dX8_goes_29 (by decide) (fun c29 => ?_) (fun c29 => ?_)
      · have c29 := b2i_f c29
        refine lv_iconst (v := 0) hx hb dX8_goes_40 (by decide) ?_
        exact hJ _ (congrArg b2i ((if_neg c29).trans rfl))
      · have c29 := b2i_t c29
        refine lv_iload_n hx hb dX8_goes_32 rfl (lv_at hl 1 rfl) ?_
        refine lv_if_eq (tgt := 40) hx hb dX8_goes_33 (by decide) (fun c33 => ?_) (fun c33 => ?_)
        · have c33 := b2i_f c33
          refine lv_iconst (v := 0) hx hb dX8_goes_40 (by decide) ?_
          exact hJ _ (congrArg b2i ((if_pos c29).trans ((if_neg c33).trans rfl)))
        · have c33 := b2i_t c33
          refine lv_iconst (v := 1) hx hb dX8_goes_36 (by decide) ?_
          refine lv_goto (tgt := 41) hx hb dX8_goes_37 (by decide) ?_
          exact hJ _ (congrArg b2i ((if_pos c29).trans ((if_pos c33).trans rfl)))
  · refine lv_if_eq (tgt := 20) hx hb dX8_goes_9 (by decide) (fun c9 => ?_) (fun c9 => ?_)
    · have c9 := b2i_f c9
      refine lv_iconst (v := 0) hx hb dX8_goes_20 (by decide) ?_
      exact hJ _ (congrArg b2i ((if_neg c9).trans rfl))
    · have c9 := b2i_t c9
      refine lv_iload_n hx hb dX8_goes_12 rfl (lv_at hl 1 rfl) ?_
      refine lv_if_ne (tgt := 20) hx hb dX8_goes_13 (by decide) (fun c13 => ?_) (fun c13 => ?_)
      · have c13 := b2i_t c13
        refine lv_iconst (v := 0) hx hb dX8_goes_20 (by decide) ?_
        exact hJ _ (congrArg b2i ((if_pos c9).trans ((if_pos c13).trans rfl)))
      · have c13 := b2i_f c13
        refine lv_iconst (v := 1) hx hb dX8_goes_16 (by decide) ?_
        refine lv_goto (tgt := 21) hx hb dX8_goes_17 (by decide) ?_
        exact hJ _ (congrArg b2i ((if_pos c9).trans ((if_neg c13).trans rfl)))
theorem PR_goes {M : MS} {p : Bool} (h : RI M) : PR M (sX8_goes M p).2 := PR_s5 _ h
theorem goes_t {M : MS} {p : Bool} {G : Bool × MS} (h : sX8_goes M p = G) (c : G.1 = true) : p = true := by
  rw [← h] at c
  have c : (if M.2 = true then (if p = true then true else false) else false) = true := c
  by_cases e : p = true
  · exact e
  · rw [if_neg e] at c
    by_cases m : M.2 = true
    · rw [if_pos m] at c; exact nomatch c
    · rw [if_neg m] at c; exact nomatch c
theorem goes_r {M : MS} {p : Bool} {G : Bool × MS} (h : sX8_goes M p = G) : G.2.1.2 3 = M.1.2 3 := by rw [← h]; rfl
theorem hd_X8_end : yX8_end.cls ≠ "java/lang/invoke/MethodHandle" ∧ yX8_end.cls ≠ "java/lang/invoke/VarHandle" ∧ (parseMethodDescriptor yX8_end.desc).map (fun d => d.parameters.length) = some 0 := by decide +kernel
def sX8_end (M : MS) : Bool × MS := ((if M.2 = true then (if (M.1.1 3) = (M.1.1 2) then true else (if (sX8_here M) = 59 then true else false)) else false), (msG M (if M.2 = true then (if (M.1.1 3) = (M.1.1 2) then true else (if (sX8_here M) = 59 then true else false)) else false)))
set_option maxHeartbeats 4000000 in
set_option maxRecDepth 100000 in
theorem c_X8_end (l : Launch) (D : va_G) (cs : Nat → ClassId) (w : Nat → Nat) (M : MS) (hd : mD w) (hri : RI M) : Met l yX8_end (wc yX8_end cX8_end 1 (some .boolean)) ({ frames := 1, cells := 0, slots := 0, locals := 20 } : Room) (va_Pc [.ref (w 0)] (PE D cs (mW cs w M))) (va_Qi (fun (r9 : Int32) (u : MS) => r9 = b2i (sX8_end M).1 ∧ u = (sX8_end M).2) (fun u t => va_P D vwC (mW cs w u) t.heap) (mA w)) 0 0 (mA w) := by
  obtain ⟨v, hv⟩ : ∃ v, sX8_end M = v := ⟨_, rfl⟩
  rw [hv]
  refine met_o (lv := [(0, .ref (w 0))]) (by decide) (Nat.le_of_ble_eq_true rfl) rfl ?_
  intro p e s m args below meth c ls hx hb hr hml hts hown hlocks hin hP hE hl
  have hown : s.vm.findClass RX8 = some m.cls := hown
  have hK := hE.1
  have hP : va_P D vwC (mW cs w M) s.heap := hP
  have hS : va_S (mA w) s.heap s.heap [] := va_S.rf
  unfold sX8_end at hv
  refine lv_aload_n hx hb dX8_end_0 rfl (lv_at hl 0 rfl) ?_
  refine lv_aload_n hx hb dX8_end_1 rfl (lv_at hl 0 rfl) ?_
  refine va_get (D := D) (ci := 8) (v := .int (b2i M.2)) (C := RX8) (T := TX8) (N := 14) hx hb hts iw_X8 hown hK hP 0 rfl rfl 11 (by decide) (hts _ w_fl_X8_112) (fun _ h9 => h9) rfl dX8_end_2 ?_
  refine join_i (J := 33) (ls := ls) (rest := [.ref (w 0)]) (b2i (if M.2 = true then (if (M.1.1 3) = (M.1.1 2) then true else (if (sX8_here M) = 59 then true else false)) else false)) ?_ (fun hJ => ?_)
  · refine va_put (D := D) (ci := 8) (v := .int (b2i (if M.2 = true then (if (M.1.1 3) = (M.1.1 2) then true else (if (sX8_here M) = 59 then true else false)) else false))) (ty := .boolean) (C := RX8) (T := TX8) (N := 14) hx hb hts iw_X8 tyX8 tyX8_ok nmX8 hown hK hP (m_D cs M hd) hS 0 rfl rfl 11 (by decide) (hts _ w_fl_X8_112) (fun _ h9 => h9) rfl (by decide +kernel) (b2i_nar _) (b2i_fit _) (Nat.le_of_ble_eq_true rfl) dX8_end_33 (fun H locs hP _ hS => ?_)
    have hP : va_P D vwC (mW cs w (msG M (if M.2 = true then (if (M.1.1 3) = (M.1.1 2) then true else (if (sX8_here M) = 59 then true else false)) else false))) H := hP
    refine lv_aload_n hx hb dX8_end_36 rfl (lv_at hl 0 rfl) ?_
    refine va_get (D := D) (ci := 8) (v := .int (b2i (if M.2 = true then (if (M.1.1 3) = (M.1.1 2) then true else (if (sX8_here M) = 59 then true else false)) else false))) (C := RX8) (T := TX8) (N := 14) hx hb hts iw_X8 hown hK hP 0 rfl rfl 11 (by decide) (hts _ w_fl_X8_112) (fun _ h9 => h9) rfl dX8_end_37 ?_
    exact W.zret (ty := .boolean) (v := b2i (if M.2 = true then (if (M.1.1 3) = (M.1.1 2) then true else (if (sX8_here M) = 59 then true else false)) else false)) hx hb hr (b2i_nar (if M.2 = true then (if (M.1.1 3) = (M.1.1 2) then true else (if (sX8_here M) = 59 then true else false)) else false)) (fun t ht hW => ⟨⟨b2i (if M.2 = true then (if (M.1.1 3) = (M.1.1 2) then true else (if (sX8_here M) = 59 then true else false)) else false), (msG M (if M.2 = true then (if (M.1.1 3) = (M.1.1 2) then true else (if (sX8_here M) = 59 then true else false)) else false)), rfl, pairb_eq hv, pw ht hP⟩, hS.F ht⟩) hS.2.2 dX8_end_40 (hlocks := hlocks)
  · refine lv_if_eq (tgt := 32) hx hb dX8_end_5 (by decide) (fun c5 => ?_) (fun c5 => ?_)
    · have c5 := b2i_f c5
      refine lv_iconst (v := 0) hx hb dX8_end_32 (by decide) ?_
      exact hJ _ (congrArg b2i ((if_neg c5).trans rfl))
    · have c5 := b2i_t c5
      refine lv_aload_n hx hb dX8_end_8 rfl (lv_at hl 0 rfl) ?_
      refine va_get (D := D) (ci := 8) (v := .int (M.1.1 3)) (C := RX8) (T := TX8) (N := 14) hx hb hts iw_X8 hown hK hP 0 rfl rfl 10 (by decide) (hts _ w_fl_X8_109) (fun _ h9 => h9) rfl dX8_end_9 ?_
      refine lv_aload_n hx hb dX8_end_12 rfl (lv_at hl 0 rfl) ?_
      refine va_get (D := D) (ci := 8) (v := .int (M.1.1 2)) (C := RX8) (T := TX8) (N := 14) hx hb hts iw_X8 hown hK hP 0 rfl rfl 9 (by decide) (hts _ w_fl_X8_102) (fun _ h9 => h9) rfl dX8_end_13 ?_
      refine lv_icmp_eq (tgt := 28) hx hb dX8_end_16 (by decide) (fun c16 => ?_) (fun c16 => ?_)
      · refine lv_iconst (v := 1) hx hb dX8_end_28 (by decide) ?_
        refine lv_goto (tgt := 33) hx hb dX8_end_29 (by decide) ?_
        exact hJ _ (congrArg b2i ((if_pos c5).trans ((if_pos c16).trans rfl)))
      · refine lv_aload_n hx hb dX8_end_19 rfl (lv_at hl 0 rfl) ?_
        refine ro_i (sX8_here M) (run_c (va_runV (As := []) (rest := [.ref (w 0)]) ⟨hx, hb, hml, hown, hts⟩ (c_X8_here l D cs w M hri) (cwV 0 hts (good_V w_ml_X8_116 w_im_X8_here w_se_X8_here w_in_X8 w_co_X8_here) rfl rfl rfl ⟨rfl, hd_X8_here⟩ ⟨Nat.le_of_ble_eq_true rfl, Nat.le_of_ble_eq_true rfl⟩) (pe_W (C := RX8) (T := TX8) (N := 14) (ci := 8) (q0 := 0) hP hE rfl rfl) rfl rfl hl.1 rfl (lv_room (Nat.le_of_ble_eq_true rfl)) dX8_end_20 ⟨Nat.zero_le _, Nat.zero_le _⟩)) ?_
        refine lv_bipush (v := 59) hx hb dX8_end_23 (by decide) ?_
        refine lv_icmp_ne (tgt := 32) hx hb dX8_end_25 (by decide) (fun c25 => ?_) (fun c25 => ?_)
        · refine lv_iconst (v := 0) hx hb dX8_end_32 (by decide) ?_
          exact hJ _ (congrArg b2i ((if_pos c5).trans ((if_neg c16).trans ((if_neg c25).trans rfl))))
        · refine lv_iconst (v := 1) hx hb dX8_end_28 (by decide) ?_
          refine lv_goto (tgt := 33) hx hb dX8_end_29 (by decide) ?_
          exact hJ _ (congrArg b2i ((if_pos c5).trans ((if_neg c16).trans ((if_pos c25).trans rfl))))
theorem PR_end {M : MS} (h : RI M) : PR M (sX8_end M).2 := PR_g _ h
