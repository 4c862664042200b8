/-! the whole state as one list of cells; History.takeBackInto and Slots.keep, which write both the ring's own fields and an office -/
def alW (cs : Nat → ClassId) (A : Nat → Nat → Nat) (Os : Nat → OF) : Nat → va_W
  | 0 => []
  | n + 1 => alW cs A Os n ++ ofW cs (A n) (Os n)
theorem al_len (cs : Nat → ClassId) (A : Nat → Nat → Nat) (Os : Nat → OF) (n : Nat) : (alW cs A Os n).length = 18 * n := by
  induction n with
  | zero => rfl
  | succ n ih => show (alW cs A Os n ++ ofW cs (A n) (Os n)).length = _; rw [List.length_append, ih, of_len]; omega
theorem al_at (cs : Nat → ClassId) (A : Nat → Nat → Nat) (Os : Nat → OF) (n : Nat) : ∀ (i : Nat) (q : Nat × va_E), (alW cs A Os n)[i]? = some q → ∃ k j, k < n ∧ j < 18 ∧ i = 18 * k + j ∧ (ofW cs (A k) (Os k))[j]? = some q := by
  induction n with
  | zero => intro i q h; exact nomatch h
  | succ n ih =>
    intro i q h
    have h : (alW cs A Os n ++ ofW cs (A n) (Os n))[i]? = some q := h
    rcases Nat.lt_or_ge i (18 * n) with h1 | h1
    · rw [List.getElem?_append_left (by rw [al_len]; exact h1)] at h
      obtain ⟨k, j, h2, h3, h4, h5⟩ := ih i q h
      exact ⟨k, j, by omega, h3, h4, h5⟩
    · rw [List.getElem?_append_right (by rw [al_len]; exact h1), al_len] at h
      exact ⟨n, i - 18 * n, by omega, (of_ad cs (A n) (Os n) _ q h).1, by omega, h⟩
theorem al_in (cs : Nat → ClassId) (A : Nat → Nat → Nat) (Os : Nat → OF) (n : Nat) : ∀ (k : Nat), k < n → ∀ (j : Nat) (q : Nat × va_E), (ofW cs (A k) (Os k))[j]? = some q → (alW cs A Os n)[18 * k + j]? = some q := by
  induction n with
  | zero => intro k hk; exact absurd hk (Nat.not_lt_zero _)
  | succ n ih =>
    intro k hk j q h
    have hj := (of_ad cs (A k) (Os k) _ q h).1
    show (alW cs A Os n ++ ofW cs (A n) (Os n))[18 * k + j]? = some q
    rcases Nat.lt_or_ge k n with h1 | h1
    · rw [List.getElem?_append_left (by rw [al_len]; omega)]
      exact ih k h1 j q h
    · obtain rfl : k = n := by omega
      rw [List.getElem?_append_right (by rw [al_len]; omega), al_len, show 18 * k + j - 18 * k = j by omega]
      exact h
theorem ts_all {D : va_G} {cs : Nat → ClassId} {z : Nat → Nat} {A : Nat → Nat → Nat} {Os : Nat → OF} {T : OF} {H : Heap} (h : tsP D cs z A Os T H) : va_P D vwC (zW cs z A T ++ alW cs A Os 19) H :=
  va_P.app h.1 (fun i q hq => by
    obtain ⟨k, j, h1, _, _, h4⟩ := al_at cs A Os 19 i q hq
    exact h.2 k h1 j q h4)
theorem ts_of_all {D : va_G} {cs : Nat → ClassId} {z : Nat → Nat} {A : Nat → Nat → Nat} {Os : Nat → OF} {T : OF} {H : Heap} (h : va_P D vwC (zW cs z A T ++ alW cs A Os 19) H) : tsP D cs z A Os T H := by
  refine ⟨fun i q hq => h i q ?_, fun k hk j q hq => h (10 + (18 * k + j)) q ?_⟩
  · rw [List.getElem?_append_left (by rw [z_len]; exact (z_ad cs z A T i q hq).1)]; exact hq
  · rw [List.getElem?_append_right (by rw [z_len]; omega), z_len, show 10 + (18 * k + j) - 10 = 18 * k + j by omega]
    exact al_in cs A Os 19 k hk j q hq
theorem ts_ad (cs : Nat → ClassId) (z : Nat → Nat) (A : Nat → Nat → Nat) (Os : Nat → OF) (T : OF) (i : Nat) (q : Nat × va_E) (h : (zW cs z A T ++ alW cs A Os 19)[i]? = some q) : (i < 10 ∧ q.1 = z i) ∨ ∃ k j, k < 19 ∧ j < 18 ∧ i = 10 + (18 * k + j) ∧ q.1 = A k j := by
  rcases Nat.lt_or_ge i 10 with h1 | h1
  · rw [List.getElem?_append_left (by rw [z_len]; exact h1)] at h
    exact Or.inl (z_ad cs z A T i q h)
  · rw [List.getElem?_append_right (by rw [z_len]; exact h1), z_len] at h
    obtain ⟨k, j, h2, h3, h4, h5⟩ := al_at cs A Os 19 _ q h
    exact Or.inr ⟨k, j, h2, h3, by omega, (of_ad cs (A k) (Os k) j q h5).2⟩
theorem ts_D (cs : Nat → ClassId) {z : Nat → Nat} {A : Nat → Nat → Nat} (Os : Nat → OF) (T : OF) (hd : tD z A) : va_D (tA z A) (zW cs z A T ++ alW cs A Os 19) := by
  refine ⟨fun i j p q hp hq e => ?_, fun k q h => ?_⟩
  · rcases ts_ad cs z A Os T i p hp with ⟨h1, e1⟩ | ⟨k1, j1, h1, h2, e1, e2⟩ <;> rcases ts_ad cs z A Os T j q hq with ⟨g1, f1⟩ | ⟨k2, j2, g1, g2, f1, f2⟩
    · exact hd.1 i j h1 g1 (by rw [← e1, ← f1, e])
    · exact absurd (by rw [← e1, ← f2, e]) (hd.2.2 i k2 j2 h1 g1 g2)
    · exact absurd (by rw [← f1, ← e2, e]) (hd.2.2 j k1 j1 g1 h1 h2)
    · obtain ⟨a1, a2⟩ := hd.2.1 k1 j1 k2 j2 h1 h2 g1 g2 (by rw [← e2, ← f2, e])
      omega
  · rcases ts_ad cs z A Os T k q h with ⟨h1, e1⟩ | ⟨k1, j1, h1, h2, e1, e2⟩
    · exact Or.inl ⟨k, h1, e1⟩
    · exact Or.inr ⟨k1, h1, ⟨j1, h2, e2⟩⟩
def nxB (x : Int32) : Int32 := x + 15 - 1 - (x + 15 - 1) / 15 * 15
theorem nx_all : ∀ n : Fin 15, ¬ (nxB (Int32.ofNat n.val) < 0 ∨ (15 : Int) ≤ (nxB (Int32.ofNat n.val)).toInt) := by decide +kernel
theorem sm_ofNat {x : Int32} {n : Nat} (h : vp_in x n) (hn : n ≤ 2 ^ 31) : x = Int32.ofNat x.toNatClampNeg := by
  obtain ⟨h1, h2⟩ := cl_in h
  refine Int32.toInt_inj.mp ?_
  rw [Int32.toInt_ofNat_of_lt (by omega)]
  exact h1
theorem nx_in {x : Int32} (h : vp_in x 15) : vp_in (nxB x) 15 := by
  obtain ⟨h1, h2⟩ := cl_in h
  have h3 := nx_all ⟨x.toNatClampNeg, h2⟩
  have h4 := sm_ofNat h (by decide)
  rw [← h4] at h3
  refine vp_in_iff.mpr ⟨?_, ?_⟩
  · have e0 : (0 : Int32).toInt = 0 := rfl
    rcases Int.lt_or_le (nxB x).toInt 0 with h5 | h5
    · exact absurd (Or.inl (i32_lt.mpr (by rw [e0]; exact h5))) h3
    · exact h5
  · have h6 : ¬ (15 : Int) ≤ (nxB x).toInt := fun h => h3 (Or.inr h)
    omega
def sX0_takeBackInto (Os : Nat → OF) (T : OF) : Int32 × TSt := (T.1 3 - 1, va_up Os 0 (sX1_copyFrom (Os 0) (Os (2 + (nxB (T.1 4)).toNatClampNeg))), stS (stS T 4 (nxB (T.1 4))) 3 (T.1 3 - 1))
set_option maxHeartbeats 4000000 in
set_option maxRecDepth 100000 in
theorem c_X0_takeBackInto (l : Launch) (D : va_G) (cs : Nat → ClassId) (z : Nat → Nat) (A : Nat → Nat → Nat) (adK adV : Nat → Nat) (Os : Nat → OF) (T : OF) (hd : tD z A) (h1 : vp_in (T.1 4) 15) : Met l yX0_takeBackInto (wc yX0_takeBackInto cX0_takeBackInto 3 (some .int)) ({ frames := 5, cells := 0, slots := 0, locals := 110 } : Room) (va_Pc [.ref (z 6), .ref (A 0 0)] (TE D cs z A adK adV Os T)) (va_Qi (fun (r9 : Int32) (u : TSt) => r9 = (sX0_takeBackInto Os T).1 ∧ u = (sX0_takeBackInto Os T).2) (fun u t => tsP D cs z A u.1 u.2 t.heap) (tA z A)) 0 0 (tA z A) := by
  refine met_g (lv := [(0, .ref (z 6)), (1, .ref (A 0 0))]) (by decide) (Nat.le_of_ble_eq_true rfl) rfl ?_
  intro p e s m args below meth c ls hx hb hr hml hts hown hlocks hin hB0 hl
  obtain ⟨⟨hT, hE⟩, hXE⟩ := hB0
  have hown : s.vm.findClass RX0 = some m.cls := hown
  have hK := hE.1
  have hS : va_S (tA z A) s.heap s.heap [] := va_S.rf
  have h2 := nx_in h1
  have hk : 2 + (nxB (T.1 4)).toNatClampNeg < 19 := by have := (cl_in h2).2; omega
  have hP := ts_all hT
  refine lv_aload_n hx hb dX0_takeBackInto_0 rfl (lv_at hl 0 rfl) ?_
  refine lv_aload_n hx hb dX0_takeBackInto_1 rfl (lv_at hl 0 rfl) ?_
  refine va_get (D := D) (ci := 0) (v := .int (T.1 4)) (C := RX0) (T := TX0) (N := 3) hx hb hts iw_X0 hown hK hP 6 rfl rfl 2 (by decide) (hts _ w_fl_X0_22) (fun _ h9 => h9) rfl dX0_takeBackInto_2 ?_
  refine lv_bipush (v := 15) hx hb dX0_takeBackInto_5 (by decide) ?_
  refine lv_iadd hx hb dX0_takeBackInto_7 ?_
  refine lv_iconst (v := 1) hx hb dX0_takeBackInto_8 (by decide) ?_
  refine lv_isub hx hb dX0_takeBackInto_9 ?_
  refine lv_bipush (v := 15) hx hb dX0_takeBackInto_10 (by decide) ?_
  refine lv_irem hx hb dX0_takeBackInto_12 (by decide) ?_
  refine va_put (D := D) (ci := 0) (v := .int (nxB (T.1 4))) (ty := .int) (C := RX0) (T := TX0) (N := 3) hx hb hts iw_X0 tyX0 tyX0_ok nmX0 hown hK hP (ts_D cs Os T hd) hS 6 rfl rfl 2 (by decide) (hts _ w_fl_X0_22) (fun _ h9 => h9) rfl (by decide +kernel) rfl rfl (Nat.le_of_ble_eq_true rfl) dX0_takeBackInto_13 (fun H locs hP _ hS => ?_)
  have hP : va_P D vwC (zW cs z A (stS T 4 (nxB (T.1 4))) ++ alW cs A Os 19) H := hP
  refine lv_aload_n hx hb dX0_takeBackInto_16 rfl (lv_at hl 0 rfl) ?_
  refine lv_dup hx hb dX0_takeBackInto_17 rfl ?_
  refine va_get (D := D) (ci := 0) (v := .int (T.1 3)) (C := RX0) (T := TX0) (N := 3) hx hb hts iw_X0 hown hK hP 6 rfl rfl 1 (by decide) (hts _ w_fl_X0_18) (fun _ h9 => h9) rfl dX0_takeBackInto_18 ?_
  refine lv_iconst (v := 1) hx hb dX0_takeBackInto_21 (by decide) ?_
  refine lv_isub hx hb dX0_takeBackInto_22 ?_
  refine va_put (D := D) (ci := 0) (v := .int (T.1 3 - 1)) (ty := .int) (C := RX0) (T := TX0) (N := 3) hx hb hts iw_X0 tyX0 tyX0_ok nmX0 hown hK hP (ts_D cs Os _ hd) hS 6 rfl rfl 1 (by decide) (hts _ w_fl_X0_18) (fun _ h9 => h9) rfl (by decide +kernel) rfl rfl (Nat.le_of_ble_eq_true rfl) dX0_takeBackInto_23 (fun H locs hP _ hS => ?_)
  have hP : va_P D vwC (zW cs z A (stS (stS T 4 (nxB (T.1 4))) 3 (T.1 3 - 1)) ++ alW cs A Os 19) H := hP
  have hT := ts_of_all hP
  refine lv_aload_n hx hb dX0_takeBackInto_26 rfl (lv_at hl 0 rfl) ?_
  refine lv_aload_n hx hb dX0_takeBackInto_27 rfl (lv_at hl 0 rfl) ?_
  refine va_get (D := D) (ci := 0) (v := .int (nxB (T.1 4))) (C := RX0) (T := TX0) (N := 3) hx hb hts iw_X0 hown hK hT.1 6 rfl rfl 2 (by decide) (hts _ w_fl_X0_22) (fun _ h9 => h9) rfl dX0_takeBackInto_28 ?_
  refine va_csr (run_c (va_runV (As := [.int (nxB (T.1 4))]) (rest := []) ⟨hx, hb, hml, hown, hts⟩ (c_X0_rowAt l D cs z A (stS (stS T 4 (nxB (T.1 4))) 3 (T.1 3 - 1)) (nxB (T.1 4)) h2) (cwV 1 hts (good_V w_ml_X0_25 w_im_X0_rowAt w_se_X0_rowAt w_in_X0 w_co_X0_rowAt) rfl rfl rfl ⟨rfl, hd_X0_rowAt⟩ ⟨Nat.le_of_ble_eq_true rfl, Nat.le_of_ble_eq_true rfl⟩) (pe_W (C := RX0) (T := TX0) (N := 3) (ci := 0) (q0 := 6) hT.1 hE rfl rfl) rfl rfl hl.1 rfl (lv_room (Nat.le_of_ble_eq_true rfl)) dX0_takeBackInto_31 ⟨Nat.zero_le _, Nat.zero_le _⟩)) (fun k9 hk9 => ?_)
  obtain rfl : k9 = 2 + (nxB (T.1 4)).toNatClampNeg := hk9
  generalize hT9 : stS (stS T 4 (nxB (T.1 4))) 3 (T.1 3 - 1) = T9 at hT ⊢
  have h30 : T9.1 3 = T.1 3 - 1 := by rw [← hT9]; rfl
  generalize hkk : 2 + (nxB (T.1 4)).toNatClampNeg = k at hk ⊢
  refine lv_astore_n (lv' := [(2, .ref (A k 0)), (0, .ref (z 6)), (1, .ref (A 0 0))]) hx hb dX0_takeBackInto_34 rfl hl (by decide) rfl (fun ls hl => ?_)
  refine lv_aload_n hx hb dX0_takeBackInto_35 rfl (lv_at hl 0 rfl) ?_
  refine lv_ifnull hx hb dX0_takeBackInto_36 ?_
  refine lv_aload_n hx hb dX0_takeBackInto_39 rfl (lv_at hl 2 rfl) ?_
  refine lv_aload_n hx hb dX0_takeBackInto_40 rfl (lv_at hl 0 rfl) ?_
  refine w_v (sX1_copyFrom (Os 0) (Os k)) (va_runV (As := [.ref (A k 0)]) (rest := []) ⟨hx, hb, hml, hown, hts⟩ (c_X1_copyFrom l D cs (A 0) (A k) (Os 0) (Os k) (hd.o2 (by decide) hk (by omega))) (cwV 1 hts (good_V w_ml_X0_29 w_im_X1_copyFrom w_se_X1_copyFrom w_in_X1 w_co_X1_copyFrom) rfl rfl rfl ⟨rfl, hd_X1_copyFrom⟩ ⟨Nat.le_of_ble_eq_true rfl, Nat.le_of_ble_eq_true rfl⟩) (pe_W (C := RX1) (T := TX1) (N := 6) (ci := 1) (q0 := 0) (va_P.app (hT.2 0 (by decide)) (hT.2 k hk)) hE rfl rfl) rfl rfl hl.1 rfl (lv_room (Nat.le_of_ble_eq_true rfl)) dX0_takeBackInto_41 ⟨Nat.zero_le _, Nat.zero_le _⟩) hS (fun _ _ h => sub_of2 (by decide) hk _ h) (fun _ h => sub_of2 (by decide) hk _ h) (fun t locs hB hz hk9 hS => ?_)
  have hT2 := t_cp hd hT (by decide : 0 < 19) hk rfl hk9 hB
  refine lv_aload_n hx hb dX0_takeBackInto_44 rfl (lv_at hl 1 rfl) ?_
  refine va_get (D := D) (ci := 0) (v := .int (T9.1 3)) (C := RX0) (T := TX0) (N := 3) hx hb hts iw_X0 hown hK hT2.1 6 rfl rfl 1 (by decide) (hts _ w_fl_X0_18) (fun _ h9 => h9) rfl dX0_takeBackInto_45 ?_
  exact W.iret (v := T9.1 3) hx hb hr (fun t9 ht hW => ⟨⟨T9.1 3, (va_up Os 0 (sX1_copyFrom (Os 0) (Os k)), T9), rfl, ⟨h30, by unfold sX0_takeBackInto; rw [hkk, hT9]⟩, tw ht hT2⟩, hS.F ht⟩) hS.2.2 dX0_takeBackInto_48 (hlocks := hlocks)
def sX5_keep (Os : Nat → OF) (T : OF) (p1 : Int32) : TSt := (va_up Os (17 + p1.toNatClampNeg) (sX1_copyFrom (Os (17 + p1.toNatClampNeg)) (Os 0)), stS T 5 (T.1 5 ||| 1 <<< (p1 &&& 31)))
set_option maxHeartbeats 4000000 in
set_option maxRecDepth 100000 in
theorem c_X5_keep (l : Launch) (D : va_G) (cs : Nat → ClassId) (z : Nat → Nat) (A : Nat → Nat → Nat) (adK adV : Nat → Nat) (Os : Nat → OF) (T : OF) (p1 : Int32) (hd : tD z A) (h1 : vp_in p1 2) : Met l yX5_keep (wc yX5_keep cX5_keep 4 none) ({ frames := 5, cells := 0, slots := 0, locals := 110 } : Room) (va_Pc [.ref (z 8), .int p1, .ref (A 0 0)] (TE D cs z A adK adV Os T)) (va_Qv (fun u : TSt => u = sX5_keep Os T p1) (fun u t => tsP D cs z A u.1 u.2 t.heap) (tA z A)) 0 0 (tA z A) := by
  refine met_g (lv := [(0, .ref (z 8)), (1, .int p1), (2, .ref (A 0 0))]) (by decide) (Nat.le_of_ble_eq_true rfl) rfl ?_
  intro p e s m args below meth c ls hx hb hr hml hts hown hlocks hin hB0 hl
  obtain ⟨⟨hT, hE⟩, hXE⟩ := hB0
  have hown : s.vm.findClass RX5 = some m.cls := hown
  have hK := hE.1
  have hS : va_S (tA z A) s.heap s.heap [] := va_S.rf
  have hk : 17 + p1.toNatClampNeg < 19 := by have := (cl_in h1).2; omega
  refine lv_aload_n hx hb dX5_keep_0 rfl (lv_at hl 0 rfl) ?_
  refine lv_iload_n hx hb dX5_keep_1 rfl (lv_at hl 1 rfl) ?_
  refine va_csr (run_c (va_runV (As := [.int p1]) (rest := []) ⟨hx, hb, hml, hown, hts⟩ (c_X5_rowAt l D cs z A T p1 h1) (cwV 1 hts (good_V w_ml_X5_30 w_im_X5_rowAt w_se_X5_rowAt w_in_X5 w_co_X5_rowAt) rfl rfl rfl ⟨rfl, hd_X5_rowAt⟩ ⟨Nat.le_of_ble_eq_true rfl, Nat.le_of_ble_eq_true rfl⟩) (pe_W (C := RX5) (T := TX5) (N := 2) (ci := 5) (q0 := 8) hT.1 hE rfl rfl) rfl rfl hl.1 rfl (lv_room (Nat.le_of_ble_eq_true rfl)) dX5_keep_2 ⟨Nat.zero_le _, Nat.zero_le _⟩)) (fun k9 hk9 => ?_)
  obtain rfl : k9 = 17 + p1.toNatClampNeg := hk9
  generalize hkk : 17 + p1.toNatClampNeg = k at hk ⊢
  refine lv_astore_n (lv' := [(3, .ref (A k 0)), (0, .ref (z 8)), (1, .int p1), (2, .ref (A 0 0))]) hx hb dX5_keep_5 rfl hl (by decide) rfl (fun ls hl => ?_)
  refine lv_aload_n hx hb dX5_keep_6 rfl (lv_at hl 0 rfl) ?_
  refine lv_ifnull hx hb dX5_keep_7 ?_
  refine lv_aload_n hx hb dX5_keep_10 rfl (lv_at hl 0 rfl) ?_
  refine lv_aload_n hx hb dX5_keep_11 rfl (lv_at hl 3 rfl) ?_
  refine w_v (sX1_copyFrom (Os k) (Os 0)) (va_runV (As := [.ref (A 0 0)]) (rest := []) ⟨hx, hb, hml, hown, hts⟩ (c_X1_copyFrom l D cs (A k) (A 0) (Os k) (Os 0) (hd.o2 hk (by decide) (by omega))) (cwV 1 hts (good_V w_ml_X5_34 w_im_X1_copyFrom w_se_X1_copyFrom w_in_X1 w_co_X1_copyFrom) rfl rfl rfl ⟨rfl, hd_X1_copyFrom⟩ ⟨Nat.le_of_ble_eq_true rfl, Nat.le_of_ble_eq_true rfl⟩) (pe_W (C := RX1) (T := TX1) (N := 6) (ci := 1) (q0 := 0) (va_P.app (hT.2 k hk) (hT.2 0 (by decide))) hE rfl rfl) rfl rfl hl.1 rfl (lv_room (Nat.le_of_ble_eq_true rfl)) dX5_keep_12 ⟨Nat.zero_le _, Nat.zero_le _⟩) hS (fun _ _ h => sub_of2 hk (by decide) _ h) (fun _ h => sub_of2 hk (by decide) _ h) (fun t locs hB hz hk9 hS => ?_)
  have hT2 := t_cp hd hT hk (by decide : 0 < 19) rfl hk9 hB
  have hP := ts_all hT2
  refine lv_aload_n hx hb dX5_keep_15 rfl (lv_at hl 1 rfl) ?_
  refine lv_dup hx hb dX5_keep_16 rfl ?_
  refine va_get (D := D) (ci := 5) (v := .int (T.1 5)) (C := RX5) (T := TX5) (N := 2) hx hb hts iw_X5 hown hK hP 8 rfl rfl 1 (by decide) (hts _ w_fl_X5_18) (fun _ h9 => h9) rfl dX5_keep_17 ?_
  refine lv_iconst (v := 1) hx hb dX5_keep_20 (by decide) ?_
  refine lv_iload_n hx hb dX5_keep_21 rfl (lv_at hl 2 rfl) ?_
  refine lv_ishl hx hb dX5_keep_22 ?_
  refine lv_ior hx hb dX5_keep_23 ?_
  refine va_put (D := D) (ci := 5) (v := .int (T.1 5 ||| 1 <<< (p1 &&& 31))) (ty := .int) (C := RX5) (T := TX5) (N := 2) hx hb hts iw_X5 tyX5 tyX5_ok nmX5 hown hK hP (ts_D cs _ T hd) hS 8 rfl rfl 1 (by decide) (hts _ w_fl_X5_18) (fun _ h9 => h9) rfl (by decide +kernel) rfl rfl (Nat.le_of_ble_eq_true rfl) dX5_keep_24 (fun H locs hP _ hS => ?_)
  have hP : va_P D vwC (zW cs z A (stS T 5 (T.1 5 ||| 1 <<< (p1 &&& 31))) ++ alW cs A (va_up Os k (sX1_copyFrom (Os k) (Os 0))) 19) H := hP
  have hT3 := ts_of_all hP
  exact W.vret hx hb hr (fun t9 ht hW => ⟨⟨(va_up Os k (sX1_copyFrom (Os k) (Os 0)), stS T 5 (T.1 5 ||| 1 <<< (p1 &&& 31))), rfl, by unfold sX5_keep; rw [hkk], tw ht hT3⟩, hS.F ht⟩) hS.2.2 dX5_keep_27 (hlocks := hlocks)
