theorem al_cong {cs : Nat → ClassId} {A B : Nat → Nat → Nat} {Os Ps : Nat → OF} (n : Nat) (h : ∀ j, j < n → A j = B j ∧ Os j = Ps j) : alW cs A Os n = alW cs B Ps n := by
  induction n with
  | zero => rfl
  | succ n ih =>
    show alW cs A Os n ++ ofW cs (A n) (Os n) = alW cs B Ps n ++ ofW cs (B n) (Ps n)
    rw [ih (fun j hj => h j (by omega)), (h n (by omega)).1, (h n (by omega)).2]
theorem nI_cl {k n : Nat} (h : k < n) (hn : n ≤ 1000) : (nI k).toNatClampNeg = k := by
  rw [cl_eq, nI_toInt (by omega)]
  omega
theorem hd_X0_init : yX0_init.cls ≠ "java/lang/invoke/MethodHandle" ∧ yX0_init.cls ≠ "java/lang/invoke/VarHandle" ∧ (parseMethodDescriptor yX0_init.desc).map (fun d => d.parameters.length) = some 0 := by decide +kernel
def kX0 (cs : Nat → ClassId) (h0 q1 : Nat) (f : Nat → Option Nat) (B : Nat → Nat → Nat) : va_W := ([(h0, .inr (0, [.ref q1, .int 0, .int 0])), (q1, .inl (cs 3, 15, .inr (.inr (.inr (.inr f)))))] ++ alW cs B (fun _ => ofI) 15)
set_option maxHeartbeats 4000000 in
set_option maxRecDepth 100000 in
theorem c_X0_init (l : Launch) (D : va_G) (cs : Nat → ClassId) (h0 : Nat) : Met l yX0_init (wc yX0_init cX0_init 2 none) ({ frames := 3, cells := 271, slots := 6480, locals := 90 } : Room) (va_Pc [.ref h0] (CP D cs h0 0 [.null, .int 0, .int 0])) (va_Qv (fun _ : Unit => True) (fun _ t => ∃ (q1 : Nat) (B : Nat → Nat → Nat) (f : Nat → Option Nat), (∀ j, j < 15 → f j = some (B j 0)) ∧ va_P D vwC (kX0 cs h0 q1 f B) t.heap ∧ va_D (fun q => h0 ≤ q) (kX0 cs h0 q1 f B)) (fun q => h0 ≤ q)) 271 6480 (fun q => h0 ≤ q) := by
  refine met_g (lv := [(0, .ref h0)]) (by decide) (Nat.le_of_ble_eq_true rfl) rfl ?_
  intro p e s m args below meth c ls hx hb hr hml hts hown hlocks hin hB0 hl
  obtain ⟨⟨hz, hP⟩, hE⟩ := hB0
  have hown : s.vm.findClass RX0 = some m.cls := hown
  have hK := hE.1.1
  have hA : ∀ q : Nat, h0 ≤ q → (fun q : Nat => h0 ≤ q) q := fun _ h => h
  have hS : va_S (fun q : Nat => h0 ≤ q) s.heap s.heap [] := va_S.rf
  have hD : va_D (fun q : Nat => h0 ≤ q) [((h0, .inr (0, [.null, .int 0, .int 0])) : Nat × va_E)] := k_oneD (Nat.le_refl _)
  refine lv_aload_n hx hb dX0_init_0 rfl (lv_at hl 0 rfl) ?_
  refine W.objInit hx hb hown (hts _ w_oi_X0) (hts _ w_oi_im) (hts _ w_oi_co) rfl (by rw [hml]; exact hl.1) rfl dX0_init_1 (Nat.le_of_ble_eq_true rfl) (Nat.le_of_ble_eq_true rfl) ?_
  refine W.eq (g2 := F0 m 4 ls []) rfl ?_
  refine lv_aload_n hx hb dX0_init_4 rfl (lv_at hl 0 rfl) ?_
  refine lv_bipush (v := 15) hx hb dX0_init_5 (by decide) ?_
  obtain ⟨q1, hq1⟩ : ∃ q, s.heap.size = q := ⟨_, rfl⟩
  have hh1 : h0 ≤ q1 := by have := (hP 0 _ rfl).lt; omega
  refine k_newq (C := "TrueSheets$Office") (cA := cs 3) (N' := 15) (h := q1) hx hb hown (hts _ w_cl_X0_11) hE.2 (ac_off hK) hP hD hS (by decide) (by decide) (Nat.le_of_ble_eq_true rfl) hq1 hh1 (Nat.le_of_ble_eq_true rfl) (Nat.le_of_ble_eq_true rfl) dX0_init_7 (fun H _ hP hD hS => ?_)
  refine W.widen (k := 1) (n := 15) (Nat.le_of_ble_eq_true rfl) (Nat.le_of_ble_eq_true rfl) ?_
  have hP : va_P D vwC [(h0, .inr (0, [.null, .int 0, .int 0])), (q1, .inl (cs 3, 15, .inr (.inr (.inr (.inr (fun _ => none))))))] H := hP
  have hD : va_D (fun q : Nat => h0 ≤ q) [(h0, .inr (0, [.null, .int 0, .int 0])), (q1, .inl (cs 3, 15, .inr (.inr (.inr (.inr (fun _ => none))))))] := hD
  refine va_putF (D := D) (ci := 0) (v := .ref q1) (ty := .array (.object "TrueSheets$Office")) (C := RX0) (T := TX0) (N := 3) hx hb hts iw_X0 tyX0 tyX0_ok nmX0 hown hK hP hD hS 0 rfl rfl 0 (by decide) (hts _ w_fl_X0_13) (fun _ h9 => h9) rfl hin rfl (by decide +kernel) rfl rfl (Nat.le_of_ble_eq_true rfl) dX0_init_10 (fun H locs hP hD hS => ?_)
  have hP : va_P D vwC [(h0, .inr (0, [.ref q1, .int 0, .int 0])), (q1, .inl (cs 3, 15, .inr (.inr (.inr (.inr (fun _ => none))))))] H := hP
  have hD : va_D (fun q : Nat => h0 ≤ q) [(h0, .inr (0, [.ref q1, .int 0, .int 0])), (q1, .inl (cs 3, 15, .inr (.inr (.inr (.inr (fun _ => none))))))] := hD
  refine lv_iconst (v := 0) hx hb dX0_init_13 (by decide) ?_
  refine lv_istore_n (lv' := [(1, .int 0), (0, .ref h0)]) hx hb dX0_init_14 rfl hl (by decide) rfl (fun ls hl => ?_)
  have LOOP : ∀ (n k : Nat) (x : Int32), k + n = 15 → x = nI k → ∀ (B : Nat → Nat → Nat) (f : Nat → Option Nat) (H : Heap) (locs : List Loc), (∀ j, j < k → f j = some (B j 0)) → va_P D vwC ([(h0, .inr (0, [.ref q1, .int 0, .int 0])), (q1, .inl (cs 3, 15, .inr (.inr (.inr (.inr f)))))] ++ alW cs B (fun _ => ofI) k) H → va_D (fun q : Nat => h0 ≤ q) ([(h0, .inr (0, [.ref q1, .int 0, .int 0])), (q1, .inl (cs 3, 15, .inr (.inr (.inr (.inr f)))))] ++ alW cs B (fun _ => ofI) k) → va_S (fun q : Nat => h0 ≤ q) s.heap H locs → ∀ ls : Array Slot, lv_has ls 2 [(1, .int x), (0, .ref h0)] → W p l e ({ frames := 3, cells := 271, slots := 6480, locals := 90 } : Room) s m args below meth c H locs (1 + 18 * k) (15 + 431 * k) (MQ below (va_Qv (fun _ : Unit => True) (fun _ t => ∃ (q1 : Nat) (B : Nat → Nat → Nat) (f : Nat → Option Nat), (∀ j, j < 15 → f j = some (B j 0)) ∧ va_P D vwC (kX0 cs h0 q1 f B) t.heap ∧ va_D (fun q => h0 ≤ q) (kX0 cs h0 q1 f B)) (fun q => h0 ≤ q)) args s 271 6480 (fun q => h0 ≤ q)) (F0 m 15 ls []) := by
    intro n
    induction n with
    | zero =>
      intro k x hk hx9 B f H locs hf hP hD hS ls hl
      obtain rfl : k = 15 := by omega
      refine lv_iload_n hx hb dX0_init_15 rfl (lv_at hl 0 rfl) ?_
      refine lv_bipush (v := 15) hx hb dX0_init_16 (by decide) ?_
      refine lv_icmp_ge (tgt := 40) hx hb dX0_init_18 (by decide) (fun _ => ?_) (fun c9 => absurd (by rw [hx9]; decide) c9)
      exact W.vret hx hb hr (fun t ht hW => ⟨⟨(), rfl, trivial, q1, B, f, hf, pw ht hP, hD⟩, hS.F ht⟩) hS.2.2 dX0_init_40 (hlocks := hlocks)
    | succ n ih =>
      intro k x hk hx9 B f H locs hf hP hD hS ls hl
      have hx8 : x.toInt = (k : Int) := by rw [hx9]; exact nI_toInt (by omega)
      refine lv_iload_n hx hb dX0_init_15 rfl (lv_at hl 0 rfl) ?_
      refine lv_bipush (v := 15) hx hb dX0_init_16 (by decide) ?_
      refine lv_icmp_ge (tgt := 40) hx hb dX0_init_18 (by decide) (fun c9 => ?_) (fun _ => ?_)
      · have h9 := i32_le.mp c9
        have e9 : (15 : Int32).toInt = 15 := rfl
        omega
      · refine lv_aload_n hx hb dX0_init_21 rfl (lv_at hl 1 rfl) ?_
        refine va_get (D := D) (ci := 0) (v := .ref q1) (C := RX0) (T := TX0) (N := 3) hx hb hts iw_X0 hown hK hP 0 rfl rfl 0 (by decide) (hts _ w_fl_X0_13) (fun _ h9 => h9) rfl dX0_init_22 ?_
        refine lv_iload_n hx hb dX0_init_25 rfl (lv_at hl 0 rfl) ?_
        obtain ⟨h1, hz_h1⟩ : ∃ q, H.size = q := ⟨_, rfl⟩
        have hlt_h1 := p_lt hP hz_h1
        have hh_h1 : h0 ≤ h1 := Nat.le_of_lt (hlt_h1 0 _ rfl)
        refine k_new (ci := 1) (fs := [.null, .null, .null, .null, .int 0, .int 0]) (h := h1) (C := RX1) (T := TX1) (N := 6) hx hb hts iw_X1 tyX1 tyX1_ok hown (hts _ w_cl_X0_11) (hts _ w_ib_X1) (hts _ w_in_X1) hK hP hS rfl (fun j hj => by rcases (show j = 0 ∨ j = 1 ∨ j = 2 ∨ j = 3 ∨ j = 4 ∨ j = 5 by omega) with rfl | rfl | rfl | rfl | rfl | rfl <;> rfl) hz_h1 (by show 1 + 18 * k + 1 ≤ 271; omega) (by show 15 + 431 * k + 6 ≤ 6480; omega) dX0_init_26 (fun H hz hP hPn hS => ?_)
        skip
        refine lv_dup hx hb dX0_init_29 rfl ?_
        refine k_call (h1 := h1) (va_runI (As := []) (rest := [.ref h1, .int x, .ref q1]) ⟨hx, hb, hml, hown, hts⟩ (c_X1_init l D cs h1) (cwI 0 hts (good_code w_co_X1_init) rfl rfl rfl (hts _ w_in_X1) (hts _ w_ml_X0_17) (hts _ w_im_X1_init) rfl hd_X1_init ⟨Nat.le_of_ble_eq_true rfl, Nat.le_of_ble_eq_true rfl⟩) (cp_S hz hPn hE) rfl rfl hl.1 rfl (lv_room (Nat.le_of_ble_eq_true rfl)) dX0_init_30 ⟨by show 1 + 18 * k + 1 + 17 ≤ 271; omega, by show 15 + 431 * k + 6 + 425 ≤ 6480; omega⟩) hS (fun q h => Nat.le_trans hh_h1 h) hP hlt_h1 (fun u t locs _ hB hP _ hS => ?_)
        refine W.widen (k := 1 + 18 * (k + 1)) (n := 15 + 431 * (k + 1)) (by omega) (by omega) ?_
        obtain ⟨a, e1, hd1, hge1, hPa⟩ := hB
        subst e1
        have hD1 : va_D (fun q : Nat => a 0 ≤ q) (ofW cs a ofI) := (of_D cs ofI hd1).weaken (fun k q _ hq => by obtain ⟨i, hi, e⟩ := hq; rw [e]; exact hge1 i hi)
        have hD := k_join hD hlt_h1 hD1 (fun q h => Nat.le_trans hh_h1 h)
        have hP := hP.app hPa
        have hlen : (([(h0, .inr (0, [.ref q1, .int 0, .int 0])), (q1, .inl (cs 3, 15, .inr (.inr (.inr (.inr f)))))] ++ alW cs B (fun _ => ofI) k) : va_W).length = 2 + 18 * k := by rw [List.length_append, al_len]; rfl
        refine va_astq (D := D) hx hb hK hP hD hS 1 3 (2 + 18 * k) 1 (by rw [List.getElem?_append_left (by rw [hlen]; omega)]; rfl) rfl (by rw [List.getElem?_append_right (by rw [hlen]; exact Nat.le_refl _), hlen, Nat.sub_self]; rfl) rfl (by rw [hx9]; exact vp_in_nI (by omega) (by decide)) dX0_init_33 (fun H locs hP hD hS => ?_)
        obtain ⟨f2, hf2⟩ : ∃ f2, va_up f x.toNatClampNeg (some (a 0)) = f2 := ⟨_, rfl⟩
        rw [hf2] at hP hD
        obtain ⟨B2, hB2⟩ : ∃ B2, (fun j => if j = k then a else B j) = B2 := ⟨_, rfl⟩
        have e2 : B2 k = a := by rw [← hB2]; exact if_pos rfl
        have e3 : ∀ j, j < k → B2 j = B j := fun j hj => by rw [← hB2]; exact if_neg (by omega)
        have e4 : alW cs B2 (fun _ => ofI) k = alW cs B (fun _ => ofI) k := al_cong k (fun j hj => ⟨e3 j hj, rfl⟩)
        have hP : va_P D vwC ([(h0, .inr (0, [.ref q1, .int 0, .int 0])), (q1, .inl (cs 3, 15, .inr (.inr (.inr (.inr f2)))))] ++ alW cs B2 (fun _ => ofI) (k + 1)) H := by
          show va_P D vwC ([(h0, .inr (0, [.ref q1, .int 0, .int 0])), (q1, .inl (cs 3, 15, .inr (.inr (.inr (.inr f2)))))] ++ (alW cs B2 (fun _ => ofI) k ++ ofW cs (B2 k) ofI)) H
          rw [e4, e2]
          exact hP
        have hD : va_D (fun q : Nat => h0 ≤ q) ([(h0, .inr (0, [.ref q1, .int 0, .int 0])), (q1, .inl (cs 3, 15, .inr (.inr (.inr (.inr f2)))))] ++ alW cs B2 (fun _ => ofI) (k + 1)) := by
          show va_D (fun q : Nat => h0 ≤ q) ([(h0, .inr (0, [.ref q1, .int 0, .int 0])), (q1, .inl (cs 3, 15, .inr (.inr (.inr (.inr f2)))))] ++ (alW cs B2 (fun _ => ofI) k ++ ofW cs (B2 k) ofI))
          rw [e4, e2]
          exact hD
        have hcl : x.toNatClampNeg = k := by rw [hx9]; exact nI_cl (n := 15) (by omega) (by decide)
        have hf3 : ∀ j, j < k + 1 → f2 j = some (B2 j 0) := fun j hj => by
          rw [← hf2]
          unfold va_up
          rw [hcl]
          by_cases e : j = k
          · rw [if_pos e, e, e2]
          · rw [if_neg e, hf j (by omega), e3 j (by omega)]
        refine lv_iinc (v := x + 1) (lv' := [(1, .int (x + 1)), (0, .ref h0)]) hx hb dX0_init_34 hl (k := 0) rfl rfl (by decide) rfl (fun ls hl => ?_)
        refine lv_goto (tgt := 15) hx hb dX0_init_37 (by decide) ?_
        exact ih (k + 1) (x + 1) (by omega) (by rw [hx9]; exact nI_1 k) B2 f2 _ _ hf3 hP hD hS ls hl
  exact LOOP 15 0 0 rfl rfl (fun _ _ => 0) (fun _ => none) H locs (fun j hj => absurd hj (Nat.not_lt_zero _)) hP hD hS ls hl
theorem hd_X5_init : yX5_init.cls ≠ "java/lang/invoke/MethodHandle" ∧ yX5_init.cls ≠ "java/lang/invoke/VarHandle" ∧ (parseMethodDescriptor yX5_init.desc).map (fun d => d.parameters.length) = some 0 := by decide +kernel
def kX5 (cs : Nat → ClassId) (h0 q1 : Nat) (f : Nat → Option Nat) (B : Nat → Nat → Nat) : va_W := ([(h0, .inr (5, [.ref q1, .int 0])), (q1, .inl (cs 3, 2, .inr (.inr (.inr (.inr f)))))] ++ alW cs B (fun _ => ofI) 2)
set_option maxHeartbeats 4000000 in
set_option maxRecDepth 100000 in
theorem c_X5_init (l : Launch) (D : va_G) (cs : Nat → ClassId) (h0 : Nat) : Met l yX5_init (wc yX5_init cX5_init 2 none) ({ frames := 3, cells := 37, slots := 864, locals := 90 } : Room) (va_Pc [.ref h0] (CP D cs h0 5 [.null, .int 0])) (va_Qv (fun _ : Unit => True) (fun _ t => ∃ (q1 : Nat) (B : Nat → Nat → Nat) (f : Nat → Option Nat), (∀ j, j < 2 → f j = some (B j 0)) ∧ va_P D vwC (kX5 cs h0 q1 f B) t.heap ∧ va_D (fun q => h0 ≤ q) (kX5 cs h0 q1 f B)) (fun q => h0 ≤ q)) 37 864 (fun q => h0 ≤ q) := by
  refine met_g (lv := [(0, .ref h0)]) (by decide) (Nat.le_of_ble_eq_true rfl) rfl ?_
  intro p e s m args below meth c ls hx hb hr hml hts hown hlocks hin hB0 hl
  obtain ⟨⟨hz, hP⟩, hE⟩ := hB0
  have hown : s.vm.findClass RX5 = some m.cls := hown
  have hK := hE.1.1
  have hA : ∀ q : Nat, h0 ≤ q → (fun q : Nat => h0 ≤ q) q := fun _ h => h
  have hS : va_S (fun q : Nat => h0 ≤ q) s.heap s.heap [] := va_S.rf
  have hD : va_D (fun q : Nat => h0 ≤ q) [((h0, .inr (5, [.null, .int 0])) : Nat × va_E)] := k_oneD (Nat.le_refl _)
  refine lv_aload_n hx hb dX5_init_0 rfl (lv_at hl 0 rfl) ?_
  refine W.objInit hx hb hown (hts _ w_oi_X5) (hts _ w_oi_im) (hts _ w_oi_co) rfl (by rw [hml]; exact hl.1) rfl dX5_init_1 (Nat.le_of_ble_eq_true rfl) (Nat.le_of_ble_eq_true rfl) ?_
  refine W.eq (g2 := F0 m 4 ls []) rfl ?_
  refine lv_aload_n hx hb dX5_init_4 rfl (lv_at hl 0 rfl) ?_
  refine lv_iconst (v := 2) hx hb dX5_init_5 (by decide) ?_
  obtain ⟨q1, hq1⟩ : ∃ q, s.heap.size = q := ⟨_, rfl⟩
  have hh1 : h0 ≤ q1 := by have := (hP 0 _ rfl).lt; omega
  refine k_newq (C := "TrueSheets$Office") (cA := cs 3) (N' := 2) (h := q1) hx hb hown (hts _ w_cl_X5_9) hE.2 (ac_off hK) hP hD hS (by decide) (by decide) (Nat.le_of_ble_eq_true rfl) hq1 hh1 (Nat.le_of_ble_eq_true rfl) (Nat.le_of_ble_eq_true rfl) dX5_init_6 (fun H _ hP hD hS => ?_)
  refine W.widen (k := 1) (n := 2) (Nat.le_of_ble_eq_true rfl) (Nat.le_of_ble_eq_true rfl) ?_
  have hP : va_P D vwC [(h0, .inr (5, [.null, .int 0])), (q1, .inl (cs 3, 2, .inr (.inr (.inr (.inr (fun _ => none))))))] H := hP
  have hD : va_D (fun q : Nat => h0 ≤ q) [(h0, .inr (5, [.null, .int 0])), (q1, .inl (cs 3, 2, .inr (.inr (.inr (.inr (fun _ => none))))))] := hD
  refine va_putF (D := D) (ci := 5) (v := .ref q1) (ty := .array (.object "TrueSheets$Office")) (C := RX5) (T := TX5) (N := 2) hx hb hts iw_X5 tyX5 tyX5_ok nmX5 hown hK hP hD hS 0 rfl rfl 0 (by decide) (hts _ w_fl_X5_11) (fun _ h9 => h9) rfl hin rfl (by decide +kernel) rfl rfl (Nat.le_of_ble_eq_true rfl) dX5_init_9 (fun H locs hP hD hS => ?_)
  have hP : va_P D vwC [(h0, .inr (5, [.ref q1, .int 0])), (q1, .inl (cs 3, 2, .inr (.inr (.inr (.inr (fun _ => none))))))] H := hP
  have hD : va_D (fun q : Nat => h0 ≤ q) [(h0, .inr (5, [.ref q1, .int 0])), (q1, .inl (cs 3, 2, .inr (.inr (.inr (.inr (fun _ => none))))))] := hD
  refine lv_iconst (v := 0) hx hb dX5_init_12 (by decide) ?_
  refine lv_istore_n (lv' := [(1, .int 0), (0, .ref h0)]) hx hb dX5_init_13 rfl hl (by decide) rfl (fun ls hl => ?_)
  have LOOP : ∀ (n k : Nat) (x : Int32), k + n = 2 → x = nI k → ∀ (B : Nat → Nat → Nat) (f : Nat → Option Nat) (H : Heap) (locs : List Loc), (∀ j, j < k → f j = some (B j 0)) → va_P D vwC ([(h0, .inr (5, [.ref q1, .int 0])), (q1, .inl (cs 3, 2, .inr (.inr (.inr (.inr f)))))] ++ alW cs B (fun _ => ofI) k) H → va_D (fun q : Nat => h0 ≤ q) ([(h0, .inr (5, [.ref q1, .int 0])), (q1, .inl (cs 3, 2, .inr (.inr (.inr (.inr f)))))] ++ alW cs B (fun _ => ofI) k) → va_S (fun q : Nat => h0 ≤ q) s.heap H locs → ∀ ls : Array Slot, lv_has ls 2 [(1, .int x), (0, .ref h0)] → W p l e ({ frames := 3, cells := 37, slots := 864, locals := 90 } : Room) s m args below meth c H locs (1 + 18 * k) (2 + 431 * k) (MQ below (va_Qv (fun _ : Unit => True) (fun _ t => ∃ (q1 : Nat) (B : Nat → Nat → Nat) (f : Nat → Option Nat), (∀ j, j < 2 → f j = some (B j 0)) ∧ va_P D vwC (kX5 cs h0 q1 f B) t.heap ∧ va_D (fun q => h0 ≤ q) (kX5 cs h0 q1 f B)) (fun q => h0 ≤ q)) args s 37 864 (fun q => h0 ≤ q)) (F0 m 14 ls []) := by
    intro n
    induction n with
    | zero =>
      intro k x hk hx9 B f H locs hf hP hD hS ls hl
      obtain rfl : k = 2 := by omega
      refine lv_iload_n hx hb dX5_init_14 rfl (lv_at hl 0 rfl) ?_
      refine lv_iconst (v := 2) hx hb dX5_init_15 (by decide) ?_
      refine lv_icmp_ge (tgt := 38) hx hb dX5_init_16 (by decide) (fun _ => ?_) (fun c9 => absurd (by rw [hx9]; decide) c9)
      exact W.vret hx hb hr (fun t ht hW => ⟨⟨(), rfl, trivial, q1, B, f, hf, pw ht hP, hD⟩, hS.F ht⟩) hS.2.2 dX5_init_38 (hlocks := hlocks)
    | succ n ih =>
      intro k x hk hx9 B f H locs hf hP hD hS ls hl
      have hx8 : x.toInt = (k : Int) := by rw [hx9]; exact nI_toInt (by omega)
      refine lv_iload_n hx hb dX5_init_14 rfl (lv_at hl 0 rfl) ?_
      refine lv_iconst (v := 2) hx hb dX5_init_15 (by decide) ?_
      refine lv_icmp_ge (tgt := 38) hx hb dX5_init_16 (by decide) (fun c9 => ?_) (fun _ => ?_)
      · have h9 := i32_le.mp c9
        have e9 : (2 : Int32).toInt = 2 := rfl
        omega
      · refine lv_aload_n hx hb dX5_init_19 rfl (lv_at hl 1 rfl) ?_
        refine va_get (D := D) (ci := 5) (v := .ref q1) (C := RX5) (T := TX5) (N := 2) hx hb hts iw_X5 hown hK hP 0 rfl rfl 0 (by decide) (hts _ w_fl_X5_11) (fun _ h9 => h9) rfl dX5_init_20 ?_
        refine lv_iload_n hx hb dX5_init_23 rfl (lv_at hl 0 rfl) ?_
        obtain ⟨h1, hz_h1⟩ : ∃ q, H.size = q := ⟨_, rfl⟩
        have hlt_h1 := p_lt hP hz_h1
        have hh_h1 : h0 ≤ h1 := Nat.le_of_lt (hlt_h1 0 _ rfl)
        refine k_new (ci := 1) (fs := [.null, .null, .null, .null, .int 0, .int 0]) (h := h1) (C := RX1) (T := TX1) (N := 6) hx hb hts iw_X1 tyX1 tyX1_ok hown (hts _ w_cl_X5_9) (hts _ w_ib_X1) (hts _ w_in_X1) hK hP hS rfl (fun j hj => by rcases (show j = 0 ∨ j = 1 ∨ j = 2 ∨ j = 3 ∨ j = 4 ∨ j = 5 by omega) with rfl | rfl | rfl | rfl | rfl | rfl <;> rfl) hz_h1 (by show 1 + 18 * k + 1 ≤ 37; omega) (by show 2 + 431 * k + 6 ≤ 864; omega) dX5_init_24 (fun H hz hP hPn hS => ?_)
        skip
        refine lv_dup hx hb dX5_init_27 rfl ?_
        refine k_call (h1 := h1) (va_runI (As := []) (rest := [.ref h1, .int x, .ref q1]) ⟨hx, hb, hml, hown, hts⟩ (c_X1_init l D cs h1) (cwI 0 hts (good_code w_co_X1_init) rfl rfl rfl (hts _ w_in_X1) (hts _ w_ml_X5_17) (hts _ w_im_X1_init) rfl hd_X1_init ⟨Nat.le_of_ble_eq_true rfl, Nat.le_of_ble_eq_true rfl⟩) (cp_S hz hPn hE) rfl rfl hl.1 rfl (lv_room (Nat.le_of_ble_eq_true rfl)) dX5_init_28 ⟨by show 1 + 18 * k + 1 + 17 ≤ 37; omega, by show 2 + 431 * k + 6 + 425 ≤ 864; omega⟩) hS (fun q h => Nat.le_trans hh_h1 h) hP hlt_h1 (fun u t locs _ hB hP _ hS => ?_)
        refine W.widen (k := 1 + 18 * (k + 1)) (n := 2 + 431 * (k + 1)) (by omega) (by omega) ?_
        obtain ⟨a, e1, hd1, hge1, hPa⟩ := hB
        subst e1
        have hD1 : va_D (fun q : Nat => a 0 ≤ q) (ofW cs a ofI) := (of_D cs ofI hd1).weaken (fun k q _ hq => by obtain ⟨i, hi, e⟩ := hq; rw [e]; exact hge1 i hi)
        have hD := k_join hD hlt_h1 hD1 (fun q h => Nat.le_trans hh_h1 h)
        have hP := hP.app hPa
        have hlen : (([(h0, .inr (5, [.ref q1, .int 0])), (q1, .inl (cs 3, 2, .inr (.inr (.inr (.inr f)))))] ++ alW cs B (fun _ => ofI) k) : va_W).length = 2 + 18 * k := by rw [List.length_append, al_len]; rfl
        refine va_astq (D := D) hx hb hK hP hD hS 1 3 (2 + 18 * k) 1 (by rw [List.getElem?_append_left (by rw [hlen]; omega)]; rfl) rfl (by rw [List.getElem?_append_right (by rw [hlen]; exact Nat.le_refl _), hlen, Nat.sub_self]; rfl) rfl (by rw [hx9]; exact vp_in_nI (by omega) (by decide)) dX5_init_31 (fun H locs hP hD hS => ?_)
        obtain ⟨f2, hf2⟩ : ∃ f2, va_up f x.toNatClampNeg (some (a 0)) = f2 := ⟨_, rfl⟩
        rw [hf2] at hP hD
        obtain ⟨B2, hB2⟩ : ∃ B2, (fun j => if j = k then a else B j) = B2 := ⟨_, rfl⟩
        have e2 : B2 k = a := by rw [← hB2]; exact if_pos rfl
        have e3 : ∀ j, j < k → B2 j = B j := fun j hj => by rw [← hB2]; exact if_neg (by omega)
        have e4 : alW cs B2 (fun _ => ofI) k = alW cs B (fun _ => ofI) k := al_cong k (fun j hj => ⟨e3 j hj, rfl⟩)
        have hP : va_P D vwC ([(h0, .inr (5, [.ref q1, .int 0])), (q1, .inl (cs 3, 2, .inr (.inr (.inr (.inr f2)))))] ++ alW cs B2 (fun _ => ofI) (k + 1)) H := by
          show va_P D vwC ([(h0, .inr (5, [.ref q1, .int 0])), (q1, .inl (cs 3, 2, .inr (.inr (.inr (.inr f2)))))] ++ (alW cs B2 (fun _ => ofI) k ++ ofW cs (B2 k) ofI)) H
          rw [e4, e2]
          exact hP
        have hD : va_D (fun q : Nat => h0 ≤ q) ([(h0, .inr (5, [.ref q1, .int 0])), (q1, .inl (cs 3, 2, .inr (.inr (.inr (.inr f2)))))] ++ alW cs B2 (fun _ => ofI) (k + 1)) := by
          show va_D (fun q : Nat => h0 ≤ q) ([(h0, .inr (5, [.ref q1, .int 0])), (q1, .inl (cs 3, 2, .inr (.inr (.inr (.inr f2)))))] ++ (alW cs B2 (fun _ => ofI) k ++ ofW cs (B2 k) ofI))
          rw [e4, e2]
          exact hD
        have hcl : x.toNatClampNeg = k := by rw [hx9]; exact nI_cl (n := 2) (by omega) (by decide)
        have hf3 : ∀ j, j < k + 1 → f2 j = some (B2 j 0) := fun j hj => by
          rw [← hf2]
          unfold va_up
          rw [hcl]
          by_cases e : j = k
          · rw [if_pos e, e, e2]
          · rw [if_neg e, hf j (by omega), e3 j (by omega)]
        refine lv_iinc (v := x + 1) (lv' := [(1, .int (x + 1)), (0, .ref h0)]) hx hb dX5_init_32 hl (k := 0) rfl rfl (by decide) rfl (fun ls hl => ?_)
        refine lv_goto (tgt := 14) hx hb dX5_init_35 (by decide) ?_
        exact ih (k + 1) (x + 1) (by omega) (by rw [hx9]; exact nI_1 k) B2 f2 _ _ hf3 hP hD hS ls hl
  exact LOOP 2 0 0 rfl rfl (fun _ _ => 0) (fun _ => none) H locs (fun j hj => absurd hj (Nat.not_lt_zero _)) hP hD hS ls hl
