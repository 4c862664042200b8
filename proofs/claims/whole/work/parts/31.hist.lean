/-! History and Slots: the methods that copy whole offices -/
theorem tw {D : va_G} {cs : Nat → ClassId} {z : Nat → Nat} {A : Nat → Nat → Nat} {Os : Nat → OF} {T : OF} {t : State} {H : Heap} (ht : t.heap = H) (h : tsP D cs z A Os T H) : tsP D cs z A Os T t.heap := by rw [ht]; exact h
theorem xr_eq {x : Int32} {v : Nat × Int32} (h : (0, x) = v) : v.1 = 0 ∧ x = v.2 := by subst h; exact ⟨rfl, rfl⟩
theorem xw_eq {x : Int32} {S : TSt} {v : Nat × Int32 × TSt} (h : (0, x, S) = v) : v.1 = 0 ∧ x = v.2.1 ∧ S = v.2.2 := by subst h; exact ⟨rfl, rfl, rfl⟩
theorem S_mono {X Y : Nat → Prop} {H0 H : Heap} {locs : List Loc} (h : va_S X H0 H locs) (hXY : ∀ q, X q → Y q) : va_S Y H0 H locs := ⟨h.1, fun q h1 h2 => h.2.1 q h1 (fun h3 => h2 (hXY q h3)), fun l hl => hXY _ (h.2.2 l hl)⟩
theorem hd_X0_rowAt : yX0_rowAt.cls ≠ "java/lang/invoke/MethodHandle" ∧ yX0_rowAt.cls ≠ "java/lang/invoke/VarHandle" ∧ (parseMethodDescriptor yX0_rowAt.desc).map (fun d => d.parameters.length) = some 1 := by decide +kernel
theorem hd_X5_rowAt : yX5_rowAt.cls ≠ "java/lang/invoke/MethodHandle" ∧ yX5_rowAt.cls ≠ "java/lang/invoke/VarHandle" ∧ (parseMethodDescriptor yX5_rowAt.desc).map (fun d => d.parameters.length) = some 1 := by decide +kernel
theorem hd_X0_hold : yX0_hold.cls ≠ "java/lang/invoke/MethodHandle" ∧ yX0_hold.cls ≠ "java/lang/invoke/VarHandle" ∧ (parseMethodDescriptor yX0_hold.desc).map (fun d => d.parameters.length) = some 1 := by decide +kernel
theorem hd_X0_takeBackInto : yX0_takeBackInto.cls ≠ "java/lang/invoke/MethodHandle" ∧ yX0_takeBackInto.cls ≠ "java/lang/invoke/VarHandle" ∧ (parseMethodDescriptor yX0_takeBackInto.desc).map (fun d => d.parameters.length) = some 1 := by decide +kernel
theorem hd_X5_keep : yX5_keep.cls ≠ "java/lang/invoke/MethodHandle" ∧ yX5_keep.cls ≠ "java/lang/invoke/VarHandle" ∧ (parseMethodDescriptor yX5_keep.desc).map (fun d => d.parameters.length) = some 2 := by decide +kernel
theorem hd_X5_copyInto : yX5_copyInto.cls ≠ "java/lang/invoke/MethodHandle" ∧ yX5_copyInto.cls ≠ "java/lang/invoke/VarHandle" ∧ (parseMethodDescriptor yX5_copyInto.desc).map (fun d => d.parameters.length) = some 2 := by decide +kernel
theorem vp_n0 {x : Int32} {n : Nat} (h : vp_in x n) : ¬ x < 0 := fun q => h (Or.inl q)
theorem vp_nb {x b : Int32} {n : Nat} (e : b.toInt = (n : Int)) (h : vp_in x n) : ¬ b ≤ x := fun q => by
  have h1 := (vp_in_iff.mp h).2
  have h2 := i32_le.mp q
  omega
set_option maxHeartbeats 4000000 in
set_option maxRecDepth 100000 in
theorem c_X0_rowAt (l : Launch) (D : va_G) (cs : Nat → ClassId) (z : Nat → Nat) (A : Nat → Nat → Nat) (T : OF) (p1 : Int32) (h1 : vp_in p1 15) : Met l yX0_rowAt (wc yX0_rowAt cX0_rowAt 2 (some (.object "TrueSheets$Office"))) ({ frames := 0, cells := 0, slots := 0, locals := 0 } : Room) (va_Pc [.ref (z 6), .int p1] (PE D cs (zW cs z A T))) (va_Sr (fun k => k = 2 + p1.toNatClampNeg) (fun k => .ref (A k 0))) 0 0 (fun _ => False) := by
  refine met_o (lv := [(0, .ref (z 6)), (1, .int p1)]) (by decide) (Nat.le_of_ble_eq_true rfl) rfl ?_
  intro p e s m args below meth c ls hx hb hr hml hts hown hlocks hin hP hE hl
  have hown : s.vm.findClass RX0 = some m.cls := hown
  have hK := hE.1
  refine lv_iload_n hx hb dX0_rowAt_0 rfl (lv_at hl 1 rfl) ?_
  refine lv_if_lt (tgt := 19) hx hb dX0_rowAt_1 (by decide) (fun c1 => absurd c1 (vp_n0 h1)) (fun c1 => ?_)
  refine lv_iload_n hx hb dX0_rowAt_4 rfl (lv_at hl 1 rfl) ?_
  refine lv_bipush (v := 15) hx hb dX0_rowAt_5 (by decide) ?_
  refine lv_icmp_ge (tgt := 19) hx hb dX0_rowAt_7 (by decide) (fun c1 => absurd c1 (vp_nb rfl h1)) (fun c1 => ?_)
  refine lv_aload_n hx hb dX0_rowAt_10 rfl (lv_at hl 0 rfl) ?_
  refine va_get (D := D) (ci := 0) (v := .ref (z 7)) (C := RX0) (T := TX0) (N := 3) hx hb hts iw_X0 hown hK hP 6 rfl rfl 0 (by decide) (hts _ w_fl_X0_13) (fun _ h9 => h9) rfl dX0_rowAt_11 ?_
  refine lv_iload_n hx hb dX0_rowAt_14 rfl (lv_at hl 1 rfl) ?_
  refine va_aldq (cA := cs 3) (n := 15) (f := fun j => some (A (2 + j) 0)) hx hb hK hP 7 3 rfl rfl h1 dX0_rowAt_15 ?_
  refine lv_goto (tgt := 20) hx hb dX0_rowAt_16 (by decide) ?_
  exact W.aret (v := .ref (A (2 + p1.toNatClampNeg) 0)) hx hb hr (Or.inl ⟨_, rfl⟩) (Or.inr ⟨_, rfl⟩) (fun t ht hW => ⟨2 + p1.toNatClampNeg, rfl, rfl, ht⟩) (fun _ h => nomatch h) dX0_rowAt_20 (hlocks := hlocks)
theorem isSlot_t {p : Int32} (h : vp_in p 2) : sX7_isSlot p = true := by
  unfold sX7_isSlot
  rw [if_neg (vp_n0 h), if_neg (vp_nb rfl h)]
set_option maxHeartbeats 4000000 in
set_option maxRecDepth 100000 in
theorem c_X5_rowAt (l : Launch) (D : va_G) (cs : Nat → ClassId) (z : Nat → Nat) (A : Nat → Nat → Nat) (T : OF) (p1 : Int32) (h1 : vp_in p1 2) : Met l yX5_rowAt (wc yX5_rowAt cX5_rowAt 2 (some (.object "TrueSheets$Office"))) ({ frames := 1, cells := 0, slots := 0, locals := 20 } : Room) (va_Pc [.ref (z 8), .int p1] (PE D cs (zW cs z A T))) (va_Sr (fun k => k = 17 + p1.toNatClampNeg) (fun k => .ref (A k 0))) 0 0 (fun _ => False) := by
  refine met_o (lv := [(0, .ref (z 8)), (1, .int p1)]) (by decide) (Nat.le_of_ble_eq_true rfl) rfl ?_
  intro p e s m args below meth c ls hx hb hr hml hts hown hlocks hin hP hE hl
  have hown : s.vm.findClass RX5 = some m.cls := hown
  have hK := hE.1
  refine lv_iload_n hx hb dX5_rowAt_0 rfl (lv_at hl 1 rfl) ?_
  refine ro_i (b2i (sX7_isSlot p1)) (run_c (va_runSN (As := [.int p1]) (rest := []) ⟨hx, hb, hml, hown, hts⟩ (c_X7_isSlot l D cs p1) ⟨va_cnB 1 hts (good_code w_co_X7_isSlot) rfl rfl rfl (hE.2.1 ("TrueSheets$Slots", 26, yX7_isSlot) (List.mem_of_getElem? (i := 0) rfl)) (hts _ w_in_X7) hd_X7_isSlot ⟨Nat.le_of_ble_eq_true rfl, Nat.le_of_ble_eq_true rfl⟩, hts _ w_st_X7_isSlot, trivial⟩ (pe_S (p_nil D _) hE) rfl rfl hl.1 rfl (lv_room (Nat.le_of_ble_eq_true rfl)) dX5_rowAt_1 ⟨Nat.zero_le _, Nat.zero_le _⟩)) ?_
  refine lv_if_eq (tgt := 16) hx hb dX5_rowAt_4 (by decide) (fun c1 => absurd (isSlot_t h1) (b2i_f c1)) (fun c1 => ?_)
  refine lv_aload_n hx hb dX5_rowAt_7 rfl (lv_at hl 0 rfl) ?_
  refine va_get (D := D) (ci := 5) (v := .ref (z 9)) (C := RX5) (T := TX5) (N := 2) hx hb hts iw_X5 hown hK hP 8 rfl rfl 0 (by decide) (hts _ w_fl_X5_11) (fun _ h9 => h9) rfl dX5_rowAt_8 ?_
  refine lv_iload_n hx hb dX5_rowAt_11 rfl (lv_at hl 1 rfl) ?_
  refine va_aldq (cA := cs 3) (n := 2) (f := fun j => some (A (17 + j) 0)) hx hb hK hP 9 3 rfl rfl h1 dX5_rowAt_12 ?_
  refine lv_goto (tgt := 17) hx hb dX5_rowAt_13 (by decide) ?_
  exact W.aret (v := .ref (A (17 + p1.toNatClampNeg) 0)) hx hb hr (Or.inl ⟨_, rfl⟩) (Or.inr ⟨_, rfl⟩) (fun t ht hW => ⟨17 + p1.toNatClampNeg, rfl, rfl, ht⟩) (fun _ h => nomatch h) dX5_rowAt_17 (hlocks := hlocks)
def sX0_hold (Os : Nat → OF) (T : OF) : TSt := (va_up Os (2 + (T.1 4).toNatClampNeg) (sX1_copyFrom (Os (2 + (T.1 4).toNatClampNeg)) (Os 0)), T)
theorem sub_of2 {A : Nat → Nat → Nat} {z : Nat → Nat} {k j : Nat} (hk : k < 19) (hj : j < 19) : ∀ q, oA2 (A k) (A j) q → tA z A q := fun _ h => h.elim (fun h => Or.inr ⟨k, hk, h⟩) (fun h => Or.inr ⟨j, hj, h⟩)
set_option maxHeartbeats 4000000 in
set_option maxRecDepth 100000 in
theorem c_X0_hold (l : Launch) (D : va_G) (cs : Nat → ClassId) (z : Nat → Nat) (A : Nat → Nat → Nat) (adK adV : Nat → Nat) (Os : Nat → OF) (T : OF) (hd : tD z A) (h1 : vp_in (T.1 4) 15) : Met l yX0_hold (wc yX0_hold cX0_hold 3 none) ({ frames := 5, cells := 0, slots := 0, locals := 110 } : Room) (va_Pc [.ref (z 6), .ref (A 0 0)] (TE D cs z A adK adV Os T)) (va_Qv (fun u : TSt => u = sX0_hold Os T) (fun u t => tsP D cs z A u.1 u.2 t.heap) (tA z A)) 0 0 (tA z A) := by
  refine met_g (lv := [(0, .ref (z 6)), (1, .ref (A 0 0))]) (by decide) (Nat.le_of_ble_eq_true rfl) rfl ?_
  intro p e s m args below meth c ls hx hb hr hml hts hown hlocks hin hB0 hl
  obtain ⟨⟨hT, hE⟩, hXE⟩ := hB0
  have hown : s.vm.findClass RX0 = some m.cls := hown
  have hK := hE.1
  have hS : va_S (tA z A) s.heap s.heap [] := va_S.rf
  have hk : 2 + (T.1 4).toNatClampNeg < 19 := by have := (cl_in h1).2; omega
  refine lv_aload_n hx hb dX0_hold_0 rfl (lv_at hl 0 rfl) ?_
  refine lv_aload_n hx hb dX0_hold_1 rfl (lv_at hl 0 rfl) ?_
  refine va_get (D := D) (ci := 0) (v := .int (T.1 4)) (C := RX0) (T := TX0) (N := 3) hx hb hts iw_X0 hown hK hT.1 6 rfl rfl 2 (by decide) (hts _ w_fl_X0_22) (fun _ h9 => h9) rfl dX0_hold_2 ?_
  refine va_csr (run_c (va_runV (As := [.int (T.1 4)]) (rest := []) ⟨hx, hb, hml, hown, hts⟩ (c_X0_rowAt l D cs z A T (T.1 4) h1) (cwV 1 hts (good_V w_ml_X0_25 w_im_X0_rowAt w_se_X0_rowAt w_in_X0 w_co_X0_rowAt) rfl rfl rfl ⟨rfl, hd_X0_rowAt⟩ ⟨Nat.le_of_ble_eq_true rfl, Nat.le_of_ble_eq_true rfl⟩) (pe_W (C := RX0) (T := TX0) (N := 3) (ci := 0) (q0 := 6) hT.1 hE rfl rfl) rfl rfl hl.1 rfl (lv_room (Nat.le_of_ble_eq_true rfl)) dX0_hold_5 ⟨Nat.zero_le _, Nat.zero_le _⟩)) (fun k9 hk9 => ?_)
  obtain rfl : k9 = 2 + (T.1 4).toNatClampNeg := hk9
  generalize hkk : 2 + (T.1 4).toNatClampNeg = k at hk ⊢
  refine lv_astore_n (lv' := [(2, .ref (A k 0)), (0, .ref (z 6)), (1, .ref (A 0 0))]) hx hb dX0_hold_8 rfl hl (by decide) rfl (fun ls hl => ?_)
  refine lv_aload_n hx hb dX0_hold_9 rfl (lv_at hl 0 rfl) ?_
  refine lv_ifnull hx hb dX0_hold_10 ?_
  refine lv_aload_n hx hb dX0_hold_13 rfl (lv_at hl 0 rfl) ?_
  refine lv_aload_n hx hb dX0_hold_14 rfl (lv_at hl 2 rfl) ?_
  refine w_v (sX1_copyFrom (Os k) (Os 0)) (va_runV (As := [.ref (A 0 0)]) (rest := []) ⟨hx, hb, hml, hown, hts⟩ (c_X1_copyFrom l D cs (A k) (A 0) (Os k) (Os 0) (hd.o2 hk (by decide) (by omega))) (cwV 1 hts (good_V w_ml_X0_29 w_im_X1_copyFrom w_se_X1_copyFrom w_in_X1 w_co_X1_copyFrom) rfl rfl rfl ⟨rfl, hd_X1_copyFrom⟩ ⟨Nat.le_of_ble_eq_true rfl, Nat.le_of_ble_eq_true rfl⟩) (pe_W (C := RX1) (T := TX1) (N := 6) (ci := 1) (q0 := 0) (va_P.app (hT.2 k hk) (hT.2 0 (by decide))) hE rfl rfl) rfl rfl hl.1 rfl (lv_room (Nat.le_of_ble_eq_true rfl)) dX0_hold_15 ⟨Nat.zero_le _, Nat.zero_le _⟩) hS (fun _ _ h => sub_of2 hk (by decide) _ h) (fun _ h => sub_of2 hk (by decide) _ h) (fun t locs hB hz hk9 hS => ?_)
  have hT2 := t_cp hd hT hk (by decide : 0 < 19) rfl hk9 hB
  exact W.vret hx hb hr (fun t9 ht hW => ⟨⟨(va_up Os k (sX1_copyFrom (Os k) (Os 0)), T), rfl, by unfold sX0_hold; rw [hkk], tw ht hT2⟩, hS.F ht⟩) hS.2.2 dX0_hold_18 (hlocks := hlocks)
def sX5_copyInto (Os : Nat → OF) (T : OF) (p1 : Int32) : TSt := (va_up Os 0 (sX1_copyFrom (Os 0) (Os (17 + p1.toNatClampNeg))), T)
set_option maxHeartbeats 4000000 in
set_option maxRecDepth 100000 in
theorem c_X5_copyInto (l : Launch) (D : va_G) (cs : Nat → ClassId) (z : Nat → Nat) (A : Nat → Nat → Nat) (adK adV : Nat → Nat) (Os : Nat → OF) (T : OF) (p1 : Int32) (hd : tD z A) (h1 : vp_in p1 2) : Met l yX5_copyInto (wc yX5_copyInto cX5_copyInto 4 none) ({ frames := 5, cells := 0, slots := 0, locals := 110 } : Room) (va_Pc [.ref (z 8), .int p1, .ref (A 0 0)] (TE D cs z A adK adV Os T)) (va_Qv (fun u : TSt => u = sX5_copyInto Os T p1) (fun u t => tsP D cs z A u.1 u.2 t.heap) (tA z A)) 0 0 (tA z A) := by
  refine met_g (lv := [(0, .ref (z 8)), (1, .int p1), (2, .ref (A 0 0))]) (by decide) (Nat.le_of_ble_eq_true rfl) rfl ?_
  intro p e s m args below meth c ls hx hb hr hml hts hown hlocks hin hB0 hl
  obtain ⟨⟨hT, hE⟩, hXE⟩ := hB0
  have hown : s.vm.findClass RX5 = some m.cls := hown
  have hK := hE.1
  have hS : va_S (tA z A) s.heap s.heap [] := va_S.rf
  have hk : 17 + p1.toNatClampNeg < 19 := by have := (cl_in h1).2; omega
  refine lv_aload_n hx hb dX5_copyInto_0 rfl (lv_at hl 0 rfl) ?_
  refine lv_iload_n hx hb dX5_copyInto_1 rfl (lv_at hl 1 rfl) ?_
  refine va_csr (run_c (va_runV (As := [.int p1]) (rest := []) ⟨hx, hb, hml, hown, hts⟩ (c_X5_rowAt l D cs z A T p1 h1) (cwV 1 hts (good_V w_ml_X5_30 w_im_X5_rowAt w_se_X5_rowAt w_in_X5 w_co_X5_rowAt) rfl rfl rfl ⟨rfl, hd_X5_rowAt⟩ ⟨Nat.le_of_ble_eq_true rfl, Nat.le_of_ble_eq_true rfl⟩) (pe_W (C := RX5) (T := TX5) (N := 2) (ci := 5) (q0 := 8) hT.1 hE rfl rfl) rfl rfl hl.1 rfl (lv_room (Nat.le_of_ble_eq_true rfl)) dX5_copyInto_2 ⟨Nat.zero_le _, Nat.zero_le _⟩)) (fun k9 hk9 => ?_)
  obtain rfl : k9 = 17 + p1.toNatClampNeg := hk9
  generalize hkk : 17 + p1.toNatClampNeg = k at hk ⊢
  refine lv_astore_n (lv' := [(3, .ref (A k 0)), (0, .ref (z 8)), (1, .int p1), (2, .ref (A 0 0))]) hx hb dX5_copyInto_5 rfl hl (by decide) rfl (fun ls hl => ?_)
  refine lv_aload_n hx hb dX5_copyInto_6 rfl (lv_at hl 0 rfl) ?_
  refine lv_ifnull hx hb dX5_copyInto_7 ?_
  refine lv_aload_n hx hb dX5_copyInto_10 rfl (lv_at hl 3 rfl) ?_
  refine lv_aload_n hx hb dX5_copyInto_11 rfl (lv_at hl 0 rfl) ?_
  refine w_v (sX1_copyFrom (Os 0) (Os k)) (va_runV (As := [.ref (A k 0)]) (rest := []) ⟨hx, hb, hml, hown, hts⟩ (c_X1_copyFrom l D cs (A 0) (A k) (Os 0) (Os k) (hd.o2 (by decide) hk (by omega))) (cwV 1 hts (good_V w_ml_X5_34 w_im_X1_copyFrom w_se_X1_copyFrom w_in_X1 w_co_X1_copyFrom) rfl rfl rfl ⟨rfl, hd_X1_copyFrom⟩ ⟨Nat.le_of_ble_eq_true rfl, Nat.le_of_ble_eq_true rfl⟩) (pe_W (C := RX1) (T := TX1) (N := 6) (ci := 1) (q0 := 0) (va_P.app (hT.2 0 (by decide)) (hT.2 k hk)) hE rfl rfl) rfl rfl hl.1 rfl (lv_room (Nat.le_of_ble_eq_true rfl)) dX5_copyInto_12 ⟨Nat.zero_le _, Nat.zero_le _⟩) hS (fun _ _ h => sub_of2 (by decide) hk _ h) (fun _ h => sub_of2 (by decide) hk _ h) (fun t locs hB hz hk9 hS => ?_)
  have hT2 := t_cp hd hT (by decide : 0 < 19) hk rfl hk9 hB
  exact W.vret hx hb hr (fun t9 ht hW => ⟨⟨(va_up Os 0 (sX1_copyFrom (Os 0) (Os k)), T), rfl, by unfold sX5_copyInto; rw [hkk], tw ht hT2⟩, hS.F ht⟩) hS.2.2 dX5_copyInto_15 (hlocks := hlocks)
