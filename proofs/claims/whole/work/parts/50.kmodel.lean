def msZ : MS := ((fun _ => 0, fun _ _ => 0), false)
def msI : MS := msA msZ 1 (sX8_fresh (fun _ => 0))
theorem m_len (cs : Nat → ClassId) (w : Nat → Nat) (M : MS) : (mW cs w M).length = 8 := rfl
theorem mD_of {A : Nat → Prop} {cs : Nat → ClassId} {w : Nat → Nat} {M : MS} (h : va_D A (mW cs w M)) : mD w := by
  intro i j hi hj e
  have g : ∀ k, k < 8 → ∃ x, (mW cs w M)[k]? = some x ∧ x.1 = w k := fun k hk => by
    have h1 : k < (mW cs w M).length := by rw [m_len]; exact hk
    exact ⟨(mW cs w M)[k], List.getElem?_eq_getElem h1, (m_ad cs w M k _ (List.getElem?_eq_getElem h1)).2⟩
  obtain ⟨x, h1, h2⟩ := g i hi
  obtain ⟨y, h3, h4⟩ := g j hj
  exact h.1 i j x y h1 h3 (by rw [h2, h4, e])
theorem m_ge {A : Nat → Prop} {cs : Nat → ClassId} {w : Nat → Nat} {M : MS} (h : va_D A (mW cs w M)) : ∀ i, i < 8 → A (w i) := by
  intro i hi
  have h1 : i < (mW cs w M).length := by rw [m_len]; exact hi
  have h2 := h.2 i _ (List.getElem?_eq_getElem h1)
  rw [(m_ad cs w M i _ (List.getElem?_eq_getElem h1)).2] at h2
  exact h2
theorem hd_X8_init : yX8_init.cls ≠ "java/lang/invoke/MethodHandle" ∧ yX8_init.cls ≠ "java/lang/invoke/VarHandle" ∧ (parseMethodDescriptor yX8_init.desc).map (fun d => d.parameters.length) = some 0 := by decide +kernel
set_option maxHeartbeats 4000000 in
set_option maxRecDepth 100000 in
theorem c_X8_init (l : Launch) (D : va_G) (cs : Nat → ClassId) (h0 : Nat) : Met l yX8_init (wc yX8_init cX8_init 1 none) ({ frames := 2, cells := 7, slots := 7988, locals := 60 } : Room) (va_Pc [.ref h0] (CP D cs h0 8 [.int 0, .null, .null, .null, .null, .int 0, .null, .null, .null, .int 0, .int 0, .int 0, .int 0, .int 0])) (va_Qv (fun _ : Unit => True) (fun _ t => ∃ w : Nat → Nat, w 0 = h0 ∧ mD w ∧ (∀ i, i < 8 → h0 ≤ w i) ∧ va_P D vwC (mW cs w msI) t.heap) (fun q => h0 ≤ q)) 7 7988 (fun q => h0 ≤ q) := by
  refine met_g (lv := [(0, .ref h0)]) (by decide) (Nat.le_of_ble_eq_true rfl) rfl ?_
  intro p e s m args below meth c ls hx hb hr hml hts hown hlocks hin hB0 hl
  obtain ⟨⟨hz, hP⟩, hE⟩ := hB0
  have hown : s.vm.findClass RX8 = some m.cls := hown
  have hK := hE.1.1
  have hA : ∀ q : Nat, h0 ≤ q → (fun q : Nat => h0 ≤ q) q := fun _ h => h
  have hS : va_S (fun q : Nat => h0 ≤ q) s.heap s.heap [] := va_S.rf
  have hD : va_D (fun q : Nat => h0 ≤ q) [((h0, .inr (8, [.int 0, .null, .null, .null, .null, .int 0, .null, .null, .null, .int 0, .int 0, .int 0, .int 0, .int 0])) : Nat × va_E)] := k_oneD (Nat.le_refl _)
  refine lv_aload_n hx hb dX8_init_0 rfl (lv_at hl 0 rfl) ?_
  refine W.objInit hx hb hown (hts _ w_oi_X8) (hts _ w_oi_im) (hts _ w_oi_co) rfl (by rw [hml]; exact hl.1) rfl dX8_init_1 (Nat.le_of_ble_eq_true rfl) (Nat.le_of_ble_eq_true rfl) ?_
  refine W.eq (g2 := F0 m 4 ls []) rfl ?_
  refine lv_aload_n hx hb dX8_init_4 rfl (lv_at hl 0 rfl) ?_
  refine lv_sipush (v := 414) hx hb dX8_init_5 (by decide) ?_
  obtain ⟨q1, hq1⟩ : ∃ q, s.heap.size = q := ⟨_, rfl⟩
  have hh1 : h0 ≤ q1 := by have := hP 0 _ rfl; have := this.lt; omega
  refine k_newa (atype := .int) (cA := cs 0) (N' := 414) (a0 := (414, .inl (fun _ => 0))) (h := q1) hx hb (hts _ w_ac_int) (ac_int hK) hP hD hS rfl (by decide) (by decide) (Nat.le_of_ble_eq_true rfl) hq1 hh1 (Nat.le_of_ble_eq_true rfl) (Nat.le_of_ble_eq_true rfl) dX8_init_8 (fun H _ hP hD hS => ?_)
  refine W.widen (k := 1) (n := 414) (Nat.le_of_ble_eq_true rfl) (Nat.le_of_ble_eq_true rfl) ?_
  have hP : va_P D vwC [(h0, .inr (8, [.int 0, .null, .null, .null, .null, .int 0, .null, .null, .null, .int 0, .int 0, .int 0, .int 0, .int 0])), (q1, .inl (cs 0, 414, .inl (fun _ => 0)))] H := hP
  have hD : va_D (fun q : Nat => h0 ≤ q) [(h0, .inr (8, [.int 0, .null, .null, .null, .null, .int 0, .null, .null, .null, .int 0, .int 0, .int 0, .int 0, .int 0])), (q1, .inl (cs 0, 414, .inl (fun _ => 0)))] := hD
  refine va_putF (D := D) (ci := 8) (v := .ref q1) (ty := .array .int) (C := RX8) (T := TX8) (N := 14) hx hb hts iw_X8 tyX8 tyX8_ok nmX8 hown hK hP hD hS 0 rfl rfl 1 (by decide) (hts _ w_fl_X8_7) (fun _ h9 => h9) rfl hin rfl (by decide +kernel) rfl rfl (Nat.le_of_ble_eq_true rfl) dX8_init_10 (fun H locs hP hD hS => ?_)
  have hP : va_P D vwC [(h0, .inr (8, [.int 0, .ref q1, .null, .null, .null, .int 0, .null, .null, .null, .int 0, .int 0, .int 0, .int 0, .int 0])), (q1, .inl (cs 0, 414, .inl (fun _ => 0)))] H := hP
  have hD : va_D (fun q : Nat => h0 ≤ q) [(h0, .inr (8, [.int 0, .ref q1, .null, .null, .null, .int 0, .null, .null, .null, .int 0, .int 0, .int 0, .int 0, .int 0])), (q1, .inl (cs 0, 414, .inl (fun _ => 0)))] := hD
  refine lv_aload_n hx hb dX8_init_13 rfl (lv_at hl 0 rfl) ?_
  refine lv_sipush (v := 414) hx hb dX8_init_14 (by decide) ?_
  obtain ⟨q2, hq2⟩ : ∃ q, H.size = q := ⟨_, rfl⟩
  have hh2 : h0 ≤ q2 := by have := hP 0 _ rfl; have := this.lt; omega
  refine k_newa (atype := .int) (cA := cs 0) (N' := 414) (a0 := (414, .inl (fun _ => 0))) (h := q2) hx hb (hts _ w_ac_int) (ac_int hK) hP hD hS rfl (by decide) (by decide) (Nat.le_of_ble_eq_true rfl) hq2 hh2 (Nat.le_of_ble_eq_true rfl) (Nat.le_of_ble_eq_true rfl) dX8_init_17 (fun H _ hP hD hS => ?_)
  refine W.widen (k := 2) (n := 828) (Nat.le_of_ble_eq_true rfl) (Nat.le_of_ble_eq_true rfl) ?_
  have hP : va_P D vwC [(h0, .inr (8, [.int 0, .ref q1, .null, .null, .null, .int 0, .null, .null, .null, .int 0, .int 0, .int 0, .int 0, .int 0])), (q1, .inl (cs 0, 414, .inl (fun _ => 0))), (q2, .inl (cs 0, 414, .inl (fun _ => 0)))] H := hP
  have hD : va_D (fun q : Nat => h0 ≤ q) [(h0, .inr (8, [.int 0, .ref q1, .null, .null, .null, .int 0, .null, .null, .null, .int 0, .int 0, .int 0, .int 0, .int 0])), (q1, .inl (cs 0, 414, .inl (fun _ => 0))), (q2, .inl (cs 0, 414, .inl (fun _ => 0)))] := hD
  refine va_putF (D := D) (ci := 8) (v := .ref q2) (ty := .array .int) (C := RX8) (T := TX8) (N := 14) hx hb hts iw_X8 tyX8 tyX8_ok nmX8 hown hK hP hD hS 0 rfl rfl 2 (by decide) (hts _ w_fl_X8_13) (fun _ h9 => h9) rfl hin rfl (by decide +kernel) rfl rfl (Nat.le_of_ble_eq_true rfl) dX8_init_19 (fun H locs hP hD hS => ?_)
  have hP : va_P D vwC [(h0, .inr (8, [.int 0, .ref q1, .ref q2, .null, .null, .int 0, .null, .null, .null, .int 0, .int 0, .int 0, .int 0, .int 0])), (q1, .inl (cs 0, 414, .inl (fun _ => 0))), (q2, .inl (cs 0, 414, .inl (fun _ => 0)))] H := hP
  have hD : va_D (fun q : Nat => h0 ≤ q) [(h0, .inr (8, [.int 0, .ref q1, .ref q2, .null, .null, .int 0, .null, .null, .null, .int 0, .int 0, .int 0, .int 0, .int 0])), (q1, .inl (cs 0, 414, .inl (fun _ => 0))), (q2, .inl (cs 0, 414, .inl (fun _ => 0)))] := hD
  refine lv_aload_n hx hb dX8_init_22 rfl (lv_at hl 0 rfl) ?_
  refine lv_sipush (v := 414) hx hb dX8_init_23 (by decide) ?_
  obtain ⟨q3, hq3⟩ : ∃ q, H.size = q := ⟨_, rfl⟩
  have hh3 : h0 ≤ q3 := by have := hP 0 _ rfl; have := this.lt; omega
  refine k_newa (atype := .int) (cA := cs 0) (N' := 414) (a0 := (414, .inl (fun _ => 0))) (h := q3) hx hb (hts _ w_ac_int) (ac_int hK) hP hD hS rfl (by decide) (by decide) (Nat.le_of_ble_eq_true rfl) hq3 hh3 (Nat.le_of_ble_eq_true rfl) (Nat.le_of_ble_eq_true rfl) dX8_init_26 (fun H _ hP hD hS => ?_)
  refine W.widen (k := 3) (n := 1242) (Nat.le_of_ble_eq_true rfl) (Nat.le_of_ble_eq_true rfl) ?_
  have hP : va_P D vwC [(h0, .inr (8, [.int 0, .ref q1, .ref q2, .null, .null, .int 0, .null, .null, .null, .int 0, .int 0, .int 0, .int 0, .int 0])), (q1, .inl (cs 0, 414, .inl (fun _ => 0))), (q2, .inl (cs 0, 414, .inl (fun _ => 0))), (q3, .inl (cs 0, 414, .inl (fun _ => 0)))] H := hP
  have hD : va_D (fun q : Nat => h0 ≤ q) [(h0, .inr (8, [.int 0, .ref q1, .ref q2, .null, .null, .int 0, .null, .null, .null, .int 0, .int 0, .int 0, .int 0, .int 0])), (q1, .inl (cs 0, 414, .inl (fun _ => 0))), (q2, .inl (cs 0, 414, .inl (fun _ => 0))), (q3, .inl (cs 0, 414, .inl (fun _ => 0)))] := hD
  refine va_putF (D := D) (ci := 8) (v := .ref q3) (ty := .array .int) (C := RX8) (T := TX8) (N := 14) hx hb hts iw_X8 tyX8 tyX8_ok nmX8 hown hK hP hD hS 0 rfl rfl 3 (by decide) (hts _ w_fl_X8_16) (fun _ h9 => h9) rfl hin rfl (by decide +kernel) rfl rfl (Nat.le_of_ble_eq_true rfl) dX8_init_28 (fun H locs hP hD hS => ?_)
  have hP : va_P D vwC [(h0, .inr (8, [.int 0, .ref q1, .ref q2, .ref q3, .null, .int 0, .null, .null, .null, .int 0, .int 0, .int 0, .int 0, .int 0])), (q1, .inl (cs 0, 414, .inl (fun _ => 0))), (q2, .inl (cs 0, 414, .inl (fun _ => 0))), (q3, .inl (cs 0, 414, .inl (fun _ => 0)))] H := hP
  have hD : va_D (fun q : Nat => h0 ≤ q) [(h0, .inr (8, [.int 0, .ref q1, .ref q2, .ref q3, .null, .int 0, .null, .null, .null, .int 0, .int 0, .int 0, .int 0, .int 0])), (q1, .inl (cs 0, 414, .inl (fun _ => 0))), (q2, .inl (cs 0, 414, .inl (fun _ => 0))), (q3, .inl (cs 0, 414, .inl (fun _ => 0)))] := hD
  refine lv_aload_n hx hb dX8_init_31 rfl (lv_at hl 0 rfl) ?_
  refine lv_sipush (v := 5796) hx hb dX8_init_32 (by decide) ?_
  obtain ⟨q4, hq4⟩ : ∃ q, H.size = q := ⟨_, rfl⟩
  have hh4 : h0 ≤ q4 := by have := hP 0 _ rfl; have := this.lt; omega
  refine k_newa (atype := .int) (cA := cs 0) (N' := 5796) (a0 := (5796, .inl (fun _ => 0))) (h := q4) hx hb (hts _ w_ac_int) (ac_int hK) hP hD hS rfl (by decide) (by decide) (Nat.le_of_ble_eq_true rfl) hq4 hh4 (Nat.le_of_ble_eq_true rfl) (Nat.le_of_ble_eq_true rfl) dX8_init_35 (fun H _ hP hD hS => ?_)
  refine W.widen (k := 4) (n := 7038) (Nat.le_of_ble_eq_true rfl) (Nat.le_of_ble_eq_true rfl) ?_
  have hP : va_P D vwC [(h0, .inr (8, [.int 0, .ref q1, .ref q2, .ref q3, .null, .int 0, .null, .null, .null, .int 0, .int 0, .int 0, .int 0, .int 0])), (q1, .inl (cs 0, 414, .inl (fun _ => 0))), (q2, .inl (cs 0, 414, .inl (fun _ => 0))), (q3, .inl (cs 0, 414, .inl (fun _ => 0))), (q4, .inl (cs 0, 5796, .inl (fun _ => 0)))] H := hP
  have hD : va_D (fun q : Nat => h0 ≤ q) [(h0, .inr (8, [.int 0, .ref q1, .ref q2, .ref q3, .null, .int 0, .null, .null, .null, .int 0, .int 0, .int 0, .int 0, .int 0])), (q1, .inl (cs 0, 414, .inl (fun _ => 0))), (q2, .inl (cs 0, 414, .inl (fun _ => 0))), (q3, .inl (cs 0, 414, .inl (fun _ => 0))), (q4, .inl (cs 0, 5796, .inl (fun _ => 0)))] := hD
  refine va_putF (D := D) (ci := 8) (v := .ref q4) (ty := .array .int) (C := RX8) (T := TX8) (N := 14) hx hb hts iw_X8 tyX8 tyX8_ok nmX8 hown hK hP hD hS 0 rfl rfl 4 (by decide) (hts _ w_fl_X8_19) (fun _ h9 => h9) rfl hin rfl (by decide +kernel) rfl rfl (Nat.le_of_ble_eq_true rfl) dX8_init_37 (fun H locs hP hD hS => ?_)
  have hP : va_P D vwC [(h0, .inr (8, [.int 0, .ref q1, .ref q2, .ref q3, .ref q4, .int 0, .null, .null, .null, .int 0, .int 0, .int 0, .int 0, .int 0])), (q1, .inl (cs 0, 414, .inl (fun _ => 0))), (q2, .inl (cs 0, 414, .inl (fun _ => 0))), (q3, .inl (cs 0, 414, .inl (fun _ => 0))), (q4, .inl (cs 0, 5796, .inl (fun _ => 0)))] H := hP
  have hD : va_D (fun q : Nat => h0 ≤ q) [(h0, .inr (8, [.int 0, .ref q1, .ref q2, .ref q3, .ref q4, .int 0, .null, .null, .null, .int 0, .int 0, .int 0, .int 0, .int 0])), (q1, .inl (cs 0, 414, .inl (fun _ => 0))), (q2, .inl (cs 0, 414, .inl (fun _ => 0))), (q3, .inl (cs 0, 414, .inl (fun _ => 0))), (q4, .inl (cs 0, 5796, .inl (fun _ => 0)))] := hD
  refine lv_aload_n hx hb dX8_init_40 rfl (lv_at hl 0 rfl) ?_
  refine lv_sipush (v := 828) hx hb dX8_init_41 (by decide) ?_
  obtain ⟨q5, hq5⟩ : ∃ q, H.size = q := ⟨_, rfl⟩
  have hh5 : h0 ≤ q5 := by have := hP 0 _ rfl; have := this.lt; omega
  refine k_newa (atype := .int) (cA := cs 0) (N' := 828) (a0 := (828, .inl (fun _ => 0))) (h := q5) hx hb (hts _ w_ac_int) (ac_int hK) hP hD hS rfl (by decide) (by decide) (Nat.le_of_ble_eq_true rfl) hq5 hh5 (Nat.le_of_ble_eq_true rfl) (Nat.le_of_ble_eq_true rfl) dX8_init_44 (fun H _ hP hD hS => ?_)
  refine W.widen (k := 5) (n := 7866) (Nat.le_of_ble_eq_true rfl) (Nat.le_of_ble_eq_true rfl) ?_
  have hP : va_P D vwC [(h0, .inr (8, [.int 0, .ref q1, .ref q2, .ref q3, .ref q4, .int 0, .null, .null, .null, .int 0, .int 0, .int 0, .int 0, .int 0])), (q1, .inl (cs 0, 414, .inl (fun _ => 0))), (q2, .inl (cs 0, 414, .inl (fun _ => 0))), (q3, .inl (cs 0, 414, .inl (fun _ => 0))), (q4, .inl (cs 0, 5796, .inl (fun _ => 0))), (q5, .inl (cs 0, 828, .inl (fun _ => 0)))] H := hP
  have hD : va_D (fun q : Nat => h0 ≤ q) [(h0, .inr (8, [.int 0, .ref q1, .ref q2, .ref q3, .ref q4, .int 0, .null, .null, .null, .int 0, .int 0, .int 0, .int 0, .int 0])), (q1, .inl (cs 0, 414, .inl (fun _ => 0))), (q2, .inl (cs 0, 414, .inl (fun _ => 0))), (q3, .inl (cs 0, 414, .inl (fun _ => 0))), (q4, .inl (cs 0, 5796, .inl (fun _ => 0))), (q5, .inl (cs 0, 828, .inl (fun _ => 0)))] := hD
  refine va_putF (D := D) (ci := 8) (v := .ref q5) (ty := .array .int) (C := RX8) (T := TX8) (N := 14) hx hb hts iw_X8 tyX8 tyX8_ok nmX8 hown hK hP hD hS 0 rfl rfl 6 (by decide) (hts _ w_fl_X8_22) (fun _ h9 => h9) rfl hin rfl (by decide +kernel) rfl rfl (Nat.le_of_ble_eq_true rfl) dX8_init_46 (fun H locs hP hD hS => ?_)
  have hP : va_P D vwC [(h0, .inr (8, [.int 0, .ref q1, .ref q2, .ref q3, .ref q4, .int 0, .ref q5, .null, .null, .int 0, .int 0, .int 0, .int 0, .int 0])), (q1, .inl (cs 0, 414, .inl (fun _ => 0))), (q2, .inl (cs 0, 414, .inl (fun _ => 0))), (q3, .inl (cs 0, 414, .inl (fun _ => 0))), (q4, .inl (cs 0, 5796, .inl (fun _ => 0))), (q5, .inl (cs 0, 828, .inl (fun _ => 0)))] H := hP
  have hD : va_D (fun q : Nat => h0 ≤ q) [(h0, .inr (8, [.int 0, .ref q1, .ref q2, .ref q3, .ref q4, .int 0, .ref q5, .null, .null, .int 0, .int 0, .int 0, .int 0, .int 0])), (q1, .inl (cs 0, 414, .inl (fun _ => 0))), (q2, .inl (cs 0, 414, .inl (fun _ => 0))), (q3, .inl (cs 0, 414, .inl (fun _ => 0))), (q4, .inl (cs 0, 5796, .inl (fun _ => 0))), (q5, .inl (cs 0, 828, .inl (fun _ => 0)))] := hD
  refine lv_aload_n hx hb dX8_init_49 rfl (lv_at hl 0 rfl) ?_
  refine lv_iconst (v := 2) hx hb dX8_init_50 (by decide) ?_
  obtain ⟨q6, hq6⟩ : ∃ q, H.size = q := ⟨_, rfl⟩
  have hh6 : h0 ≤ q6 := by have := hP 0 _ rfl; have := this.lt; omega
  refine k_newa (atype := .boolean) (cA := cs 2) (N' := 2) (a0 := (2, .inl (fun _ => 0))) (h := q6) hx hb (hts _ w_ac_boolean) (ac_boolean hK) hP hD hS rfl (by decide) (by decide) (Nat.le_of_ble_eq_true rfl) hq6 hh6 (Nat.le_of_ble_eq_true rfl) (Nat.le_of_ble_eq_true rfl) dX8_init_51 (fun H _ hP hD hS => ?_)
  refine W.widen (k := 6) (n := 7868) (Nat.le_of_ble_eq_true rfl) (Nat.le_of_ble_eq_true rfl) ?_
  have hP : va_P D vwC [(h0, .inr (8, [.int 0, .ref q1, .ref q2, .ref q3, .ref q4, .int 0, .ref q5, .null, .null, .int 0, .int 0, .int 0, .int 0, .int 0])), (q1, .inl (cs 0, 414, .inl (fun _ => 0))), (q2, .inl (cs 0, 414, .inl (fun _ => 0))), (q3, .inl (cs 0, 414, .inl (fun _ => 0))), (q4, .inl (cs 0, 5796, .inl (fun _ => 0))), (q5, .inl (cs 0, 828, .inl (fun _ => 0))), (q6, .inl (cs 2, 2, .inl (fun _ => 0)))] H := hP
  have hD : va_D (fun q : Nat => h0 ≤ q) [(h0, .inr (8, [.int 0, .ref q1, .ref q2, .ref q3, .ref q4, .int 0, .ref q5, .null, .null, .int 0, .int 0, .int 0, .int 0, .int 0])), (q1, .inl (cs 0, 414, .inl (fun _ => 0))), (q2, .inl (cs 0, 414, .inl (fun _ => 0))), (q3, .inl (cs 0, 414, .inl (fun _ => 0))), (q4, .inl (cs 0, 5796, .inl (fun _ => 0))), (q5, .inl (cs 0, 828, .inl (fun _ => 0))), (q6, .inl (cs 2, 2, .inl (fun _ => 0)))] := hD
  refine va_putF (D := D) (ci := 8) (v := .ref q6) (ty := .array .boolean) (C := RX8) (T := TX8) (N := 14) hx hb hts iw_X8 tyX8 tyX8_ok nmX8 hown hK hP hD hS 0 rfl rfl 7 (by decide) (hts _ w_fl_X8_25) (fun _ h9 => h9) rfl hin rfl (by decide +kernel) rfl rfl (Nat.le_of_ble_eq_true rfl) dX8_init_53 (fun H locs hP hD hS => ?_)
  have hP : va_P D vwC [(h0, .inr (8, [.int 0, .ref q1, .ref q2, .ref q3, .ref q4, .int 0, .ref q5, .ref q6, .null, .int 0, .int 0, .int 0, .int 0, .int 0])), (q1, .inl (cs 0, 414, .inl (fun _ => 0))), (q2, .inl (cs 0, 414, .inl (fun _ => 0))), (q3, .inl (cs 0, 414, .inl (fun _ => 0))), (q4, .inl (cs 0, 5796, .inl (fun _ => 0))), (q5, .inl (cs 0, 828, .inl (fun _ => 0))), (q6, .inl (cs 2, 2, .inl (fun _ => 0)))] H := hP
  have hD : va_D (fun q : Nat => h0 ≤ q) [(h0, .inr (8, [.int 0, .ref q1, .ref q2, .ref q3, .ref q4, .int 0, .ref q5, .ref q6, .null, .int 0, .int 0, .int 0, .int 0, .int 0])), (q1, .inl (cs 0, 414, .inl (fun _ => 0))), (q2, .inl (cs 0, 414, .inl (fun _ => 0))), (q3, .inl (cs 0, 414, .inl (fun _ => 0))), (q4, .inl (cs 0, 5796, .inl (fun _ => 0))), (q5, .inl (cs 0, 828, .inl (fun _ => 0))), (q6, .inl (cs 2, 2, .inl (fun _ => 0)))] := hD
  refine lv_aload_n hx hb dX8_init_56 rfl (lv_at hl 0 rfl) ?_
  refine lv_bipush (v := 120) hx hb dX8_init_57 (by decide) ?_
  obtain ⟨q7, hq7⟩ : ∃ q, H.size = q := ⟨_, rfl⟩
  have hh7 : h0 ≤ q7 := by have := hP 0 _ rfl; have := this.lt; omega
  refine k_newa (atype := .int) (cA := cs 0) (N' := 120) (a0 := (120, .inl (fun _ => 0))) (h := q7) hx hb (hts _ w_ac_int) (ac_int hK) hP hD hS rfl (by decide) (by decide) (Nat.le_of_ble_eq_true rfl) hq7 hh7 (Nat.le_of_ble_eq_true rfl) (Nat.le_of_ble_eq_true rfl) dX8_init_59 (fun H _ hP hD hS => ?_)
  refine W.widen (k := 7) (n := 7988) (Nat.le_of_ble_eq_true rfl) (Nat.le_of_ble_eq_true rfl) ?_
  have hP : va_P D vwC [(h0, .inr (8, [.int 0, .ref q1, .ref q2, .ref q3, .ref q4, .int 0, .ref q5, .ref q6, .null, .int 0, .int 0, .int 0, .int 0, .int 0])), (q1, .inl (cs 0, 414, .inl (fun _ => 0))), (q2, .inl (cs 0, 414, .inl (fun _ => 0))), (q3, .inl (cs 0, 414, .inl (fun _ => 0))), (q4, .inl (cs 0, 5796, .inl (fun _ => 0))), (q5, .inl (cs 0, 828, .inl (fun _ => 0))), (q6, .inl (cs 2, 2, .inl (fun _ => 0))), (q7, .inl (cs 0, 120, .inl (fun _ => 0)))] H := hP
  have hD : va_D (fun q : Nat => h0 ≤ q) [(h0, .inr (8, [.int 0, .ref q1, .ref q2, .ref q3, .ref q4, .int 0, .ref q5, .ref q6, .null, .int 0, .int 0, .int 0, .int 0, .int 0])), (q1, .inl (cs 0, 414, .inl (fun _ => 0))), (q2, .inl (cs 0, 414, .inl (fun _ => 0))), (q3, .inl (cs 0, 414, .inl (fun _ => 0))), (q4, .inl (cs 0, 5796, .inl (fun _ => 0))), (q5, .inl (cs 0, 828, .inl (fun _ => 0))), (q6, .inl (cs 2, 2, .inl (fun _ => 0))), (q7, .inl (cs 0, 120, .inl (fun _ => 0)))] := hD
  refine va_putF (D := D) (ci := 8) (v := .ref q7) (ty := .array .int) (C := RX8) (T := TX8) (N := 14) hx hb hts iw_X8 tyX8 tyX8_ok nmX8 hown hK hP hD hS 0 rfl rfl 8 (by decide) (hts _ w_fl_X8_29) (fun _ h9 => h9) rfl hin rfl (by decide +kernel) rfl rfl (Nat.le_of_ble_eq_true rfl) dX8_init_61 (fun H locs hP hD hS => ?_)
  have hP : va_P D vwC [(h0, .inr (8, [.int 0, .ref q1, .ref q2, .ref q3, .ref q4, .int 0, .ref q5, .ref q6, .ref q7, .int 0, .int 0, .int 0, .int 0, .int 0])), (q1, .inl (cs 0, 414, .inl (fun _ => 0))), (q2, .inl (cs 0, 414, .inl (fun _ => 0))), (q3, .inl (cs 0, 414, .inl (fun _ => 0))), (q4, .inl (cs 0, 5796, .inl (fun _ => 0))), (q5, .inl (cs 0, 828, .inl (fun _ => 0))), (q6, .inl (cs 2, 2, .inl (fun _ => 0))), (q7, .inl (cs 0, 120, .inl (fun _ => 0)))] H := hP
  have hD : va_D (fun q : Nat => h0 ≤ q) [(h0, .inr (8, [.int 0, .ref q1, .ref q2, .ref q3, .ref q4, .int 0, .ref q5, .ref q6, .ref q7, .int 0, .int 0, .int 0, .int 0, .int 0])), (q1, .inl (cs 0, 414, .inl (fun _ => 0))), (q2, .inl (cs 0, 414, .inl (fun _ => 0))), (q3, .inl (cs 0, 414, .inl (fun _ => 0))), (q4, .inl (cs 0, 5796, .inl (fun _ => 0))), (q5, .inl (cs 0, 828, .inl (fun _ => 0))), (q6, .inl (cs 2, 2, .inl (fun _ => 0))), (q7, .inl (cs 0, 120, .inl (fun _ => 0)))] := hD
  have hP : va_P D vwC (mW cs (fun i => ([h0, q1, q2, q3, q4, q5, q6, q7] : List Nat).getD i 0) msZ) H := hP
  have hD : va_D (fun q : Nat => h0 ≤ q) (mW cs (fun i => ([h0, q1, q2, q3, q4, q5, q6, q7] : List Nat).getD i 0) msZ) := hD
  have hd := mD_of hD
  have hge := m_ge hD
  refine lv_aload_n hx hb dX8_init_64 rfl (lv_at hl 0 rfl) ?_
  refine va_get (D := D) (ci := 8) (v := .ref q1) (C := RX8) (T := TX8) (N := 14) hx hb hts iw_X8 hown hK hP 0 rfl rfl 1 (by decide) (hts _ w_fl_X8_7) (fun _ h9 => h9) rfl dX8_init_65 ?_
  refine w_v (sX8_fresh (fun _ => 0)) (va_runS (As := [.ref q1]) (rest := []) ⟨hx, hb, hml, hown, hts⟩ (c_X8_fresh l D cs q1 (fun _ => 0)) (cwS 1 hts (good_S w_ml_X8_32 w_st_X8_fresh w_in_X8 w_co_X8_fresh) rfl rfl rfl ⟨rfl, hd_X8_fresh⟩ ⟨Nat.le_of_ble_eq_true rfl, Nat.le_of_ble_eq_true rfl⟩) (pe_S (hP.sub (ws' := rowW cs q1 (fun _ => 0)) [1] rfl) hE.1) rfl rfl hl.1 rfl (lv_room (Nat.le_of_ble_eq_true rfl)) dX8_init_68 ⟨Nat.le_of_ble_eq_true rfl, Nat.le_of_ble_eq_true rfl⟩) hS (fun q _ h => by rw [show q = q1 from h]; exact hge 1 (by decide)) (fun q h => by rw [show q = q1 from h]; exact hge 1 (by decide)) (fun t locs hB _ hk hS => ?_)
  have hP : va_P D vwC (mW cs (fun i => ([h0, q1, q2, q3, q4, q5, q6, q7] : List Nat).getD i 0) msI) t.heap := m_up1 hd hP hk hB
  exact W.vret hx hb hr (fun t ht hW => ⟨⟨(), rfl, trivial, _, rfl, hd, hge, pw ht hP⟩, hS.F ht⟩) hS.2.2 dX8_init_71 (hlocks := hlocks)
