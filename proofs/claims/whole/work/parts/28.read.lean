set_option maxHeartbeats 4000000 in
set_option maxRecDepth 100000 in
theorem c_X2_spelling (l : Launch) (A : Nat → Prop) (adK adV : Nat → Nat) (p1 : Int32) : Met l yX2_spelling (wc yX2_spelling cX2_spelling 1 (some (.object "java/lang/String"))) ({ frames := 0, cells := 0, slots := 0, locals := 0 } : Room) (va_Pc [.int p1] (SE A adK adV)) (va_Sr (fun k => k = spI p1) (fun k => .ref (adK k))) 0 0 (fun _ => False) := by
  refine met_g (lv := [(0, .int p1)]) (by decide) (Nat.le_of_ble_eq_true rfl) rfl ?_
  intro p e s m args below meth c ls hx hb hr hml hts hown hlocks hin hB hl
  have hown : s.vm.findClass RX2 = some m.cls := hown
  refine lv_iload_n hx hb dX2_spelling_0 rfl (lv_at hl 0 rfl) ?_
  by_cases e0 : p1 = 0
  · have hk : spI p1 = 0 := by unfold spI; rw [if_pos e0]
    refine lv_tableIn (off := 31) (tgt := 32) hx hb dX2_spelling_1 (by rw [e0]; decide) (by rw [e0]; decide) (by rw [e0]; rfl) (by decide) ?_
    refine va_ldcS hx hb hown (hB.2.2.2 0 (by decide)) dX2_spelling_32 ?_
    exact W.aret (v := .ref (adK 0)) hx hb hr (Or.inl ⟨_, rfl⟩) (Or.inr ⟨_, rfl⟩) (fun t ht hW => ⟨0, rfl, hk.symm, ht⟩) (fun _ h => nomatch h) dX2_spelling_34 (hlocks := hlocks)
  by_cases e1 : p1 = 1
  · have hk : spI p1 = 1 := by unfold spI; rw [if_neg e0, if_pos e1]
    refine lv_tableIn (off := 34) (tgt := 35) hx hb dX2_spelling_1 (by rw [e1]; decide) (by rw [e1]; decide) (by rw [e1]; rfl) (by decide) ?_
    refine va_ldcS hx hb hown (hB.2.2.2 1 (by decide)) dX2_spelling_35 ?_
    exact W.aret (v := .ref (adK 1)) hx hb hr (Or.inl ⟨_, rfl⟩) (Or.inr ⟨_, rfl⟩) (fun t ht hW => ⟨1, rfl, hk.symm, ht⟩) (fun _ h => nomatch h) dX2_spelling_37 (hlocks := hlocks)
  by_cases e2 : p1 = 2
  · have hk : spI p1 = 2 := by unfold spI; rw [if_neg e0, if_neg e1, if_pos e2]
    refine lv_tableIn (off := 37) (tgt := 38) hx hb dX2_spelling_1 (by rw [e2]; decide) (by rw [e2]; decide) (by rw [e2]; rfl) (by decide) ?_
    refine va_ldcS hx hb hown (hB.2.2.2 2 (by decide)) dX2_spelling_38 ?_
    exact W.aret (v := .ref (adK 2)) hx hb hr (Or.inl ⟨_, rfl⟩) (Or.inr ⟨_, rfl⟩) (fun t ht hW => ⟨2, rfl, hk.symm, ht⟩) (fun _ h => nomatch h) dX2_spelling_40 (hlocks := hlocks)
  by_cases e3 : p1 = 3
  · have hk : spI p1 = 3 := by unfold spI; rw [if_neg e0, if_neg e1, if_neg e2, if_pos e3]
    refine lv_tableIn (off := 40) (tgt := 41) hx hb dX2_spelling_1 (by rw [e3]; decide) (by rw [e3]; decide) (by rw [e3]; rfl) (by decide) ?_
    refine va_ldcS hx hb hown (hB.2.2.2 3 (by decide)) dX2_spelling_41 ?_
    exact W.aret (v := .ref (adK 3)) hx hb hr (Or.inl ⟨_, rfl⟩) (Or.inr ⟨_, rfl⟩) (fun t ht hW => ⟨3, rfl, hk.symm, ht⟩) (fun _ h => nomatch h) dX2_spelling_43 (hlocks := hlocks)
  have hk : spI p1 = 4 := by unfold spI; rw [if_neg e0, if_neg e1, if_neg e2, if_neg e3]
  have f0 : p1.toInt ≠ 0 := sw_ne e0
  have f1 : p1.toInt ≠ 1 := sw_ne e1
  have f2 : p1.toInt ≠ 2 := sw_ne e2
  have f3 : p1.toInt ≠ 3 := sw_ne e3
  refine lv_tableOut (tgt := 44) hx hb dX2_spelling_1 (by omega) (by decide) ?_
  refine va_ldcS hx hb hown (hB.2.2.2 4 (by decide)) dX2_spelling_44 ?_
  exact W.aret (v := .ref (adK 4)) hx hb hr (Or.inl ⟨_, rfl⟩) (Or.inr ⟨_, rfl⟩) (fun t ht hW => ⟨4, rfl, hk.symm, ht⟩) (fun _ h => nomatch h) dX2_spelling_46 (hlocks := hlocks)
theorem hd_X2_lettersOf : yX2_lettersOf.cls ≠ "java/lang/invoke/MethodHandle" ∧ yX2_lettersOf.cls ≠ "java/lang/invoke/VarHandle" ∧ (parseMethodDescriptor yX2_lettersOf.desc).map (fun d => d.parameters.length) = some 1 := by decide +kernel
def LX2_lettersOf_2 (T : OF) (i : Nat) : Nat → Int32 → Int32
  | 0 => fun _ => 0
  | n + 1 => fun x2 => (if (nI (wlen.getD i 0)) ≤ x2 then x2 else (if (sX2_signAt T ((T.1 1) + x2)) = (wch i x2) then (LX2_lettersOf_2 T i n (x2 + 1)) else x2))
theorem LX2_lettersOf_2_eq (T : OF) (i : Nat) (n : Nat) (x2 : Int32) : LX2_lettersOf_2 T i (n + 1) x2 = (if (nI (wlen.getD i 0)) ≤ x2 then x2 else (if (sX2_signAt T ((T.1 1) + x2)) = (wch i x2) then (LX2_lettersOf_2 T i n (x2 + 1)) else x2)) := rfl
def sX2_lettersOf (T : OF) (i : Nat) : Int32 := (LX2_lettersOf_2 T i (upM (nI (wlen.getD i 0)) 0 + 1) 0)
set_option maxHeartbeats 4000000 in
set_option maxRecDepth 100000 in
theorem c_X2_lettersOf (l : Launch) (D : va_G) (cs : Nat → ClassId) (z : Nat → Nat) (A : Nat → Nat → Nat) (T : OF) (adK adV : Nat → Nat) (i : Nat) (hi : i < 5) : Met l yX2_lettersOf (wc yX2_lettersOf cX2_lettersOf 3 (some .int)) ({ frames := 4, cells := 0, slots := 0, locals := 85 } : Room) (va_Pc [.ref (z 1), .ref (adK i)] (ZS D cs z A T adK adV)) (vp_Si (fun r9 => r9 = (sX2_lettersOf T i))) 0 0 (fun _ => False) := by
  obtain ⟨v, hv⟩ : ∃ v, sX2_lettersOf T i = v := ⟨_, rfl⟩
  rw [hv]
  refine met_g (lv := [(0, .ref (z 1)), (1, .ref (adK i))]) (by decide) (Nat.le_of_ble_eq_true rfl) rfl ?_
  intro p e s m args below meth c ls hx hb hr hml hts hown hlocks hin hB0 hl
  obtain ⟨⟨hP, hE⟩, hSE⟩ := hB0
  have hown : s.vm.findClass RX2 = some m.cls := hown
  have hK := hE.1
  have hP : va_P D vwC (zW cs z A T) s.heap := hP
  have hS : va_S (zA z) s.heap s.heap [] := va_S.rf
  unfold sX2_lettersOf at hv
  refine lv_iconst (v := 0) hx hb dX2_lettersOf_0 (by decide) ?_
  refine lv_istore_n (lv' := [(2, .int 0), (0, .ref (z 1)), (1, .ref (adK i))]) hx hb dX2_lettersOf_1 rfl hl (by decide) rfl (fun ls hl => ?_)
  have LOOP : ∀ (n : Nat) (x2 : Int32), upM (nI (wlen.getD i 0)) x2 < n → (¬ x2 < 0) → LX2_lettersOf_2 T i n x2 = v → ∀ ls : Array Slot, lv_has ls 3 [(0, .ref (z 1)), (1, .ref (adK i)), (2, .int x2)] → W p l e ({ frames := 4, cells := 0, slots := 0, locals := 85 } : Room) s m args below meth c s.heap [] 0 0 (MQ below (vp_Si (fun r9 => r9 = v)) args s 0 0 (fun _ => False)) (F0 m 2 ls []) := by
    clear hv
    intro n
    induction n with
    | zero => intro x2 hm; exact absurd hm (Nat.not_lt_zero _)
    | succ n ih =>
      intro x2 hm i0 hv ls hl
      have hv := (LX2_lettersOf_2_eq T i n x2).symm.trans hv
      refine lv_iload_n hx hb dX2_lettersOf_2 rfl (lv_at hl 2 rfl) ?_
      refine lv_aload_n hx hb dX2_lettersOf_3 rfl (lv_at hl 1 rfl) ?_
      refine ro_i (nI (wlen.getD i 0)) (run_c (va_runV (As := []) (rest := [.int x2]) ⟨hx, hb, hml, hown, hts⟩ (c_J0_length l (zA z) adK adV i hi) (cwV 0 hts (good_V w_ml_X2_88 w_im_J0_length_8abf5 w_se_J0_length_8abf5 w_in_J0 w_co_J0_length_8abf5) rfl rfl rfl ⟨rfl, hd_J0_length⟩ ⟨Nat.le_of_ble_eq_true rfl, Nat.le_of_ble_eq_true rfl⟩) (se_V hSE hS hi) rfl rfl hl.1 rfl (lv_room (Nat.le_of_ble_eq_true rfl)) dX2_lettersOf_4 ⟨Nat.zero_le _, Nat.zero_le _⟩)) ?_
      refine lv_icmp_ge (tgt := 34) hx hb dX2_lettersOf_7 (by decide) (fun c7 => ?_) (fun c7 => ?_)
      · have hv := (if_pos c7).symm.trans hv
        refine lv_iload_n hx hb dX2_lettersOf_34 rfl (lv_at hl 2 rfl) ?_
        exact W.iret (v := x2) hx hb hr (fun t ht hW => ⟨x2, rfl, hv, ht⟩) (fun _ h => nomatch h) dX2_lettersOf_35 (hlocks := hlocks)
      · have hv := (if_neg c7).symm.trans hv
        refine lv_aload_n hx hb dX2_lettersOf_10 rfl (lv_at hl 0 rfl) ?_
        refine lv_aload_n hx hb dX2_lettersOf_11 rfl (lv_at hl 0 rfl) ?_
        refine va_get (D := D) (ci := 2) (v := .int (T.1 1)) (C := RX2) (T := TX2) (N := 7) hx hb hts iw_X2 hown hK hP 1 rfl rfl 2 (by decide) (hts _ w_fl_X2_36) (fun _ h9 => h9) rfl dX2_lettersOf_12 ?_
        refine lv_iload_n hx hb dX2_lettersOf_15 rfl (lv_at hl 2 rfl) ?_
        refine lv_iadd hx hb dX2_lettersOf_16 ?_
        refine ro_i (sX2_signAt T ((T.1 1) + x2)) (run_c (va_runV (As := [.int ((T.1 1) + x2)]) (rest := []) ⟨hx, hb, hml, hown, hts⟩ (c_X2_signAt l D cs z A T ((T.1 1) + x2)) (cwV 1 hts (good_V w_ml_X2_97 w_im_X2_signAt w_se_X2_signAt w_in_X2 w_co_X2_signAt) rfl rfl rfl ⟨rfl, hd_X2_signAt⟩ ⟨Nat.le_of_ble_eq_true rfl, Nat.le_of_ble_eq_true rfl⟩) (pe_W (C := RX2) (T := TX2) (N := 7) (ci := 2) (q0 := 1) hP hE rfl rfl) rfl rfl hl.1 rfl (lv_room (Nat.le_of_ble_eq_true rfl)) dX2_lettersOf_17 ⟨Nat.zero_le _, Nat.zero_le _⟩)) ?_
        refine lv_aload_n hx hb dX2_lettersOf_20 rfl (lv_at hl 1 rfl) ?_
        refine lv_iload_n hx hb dX2_lettersOf_21 rfl (lv_at hl 2 rfl) ?_
        refine ro_i (wch i x2) (run_c (va_runV (As := [.int x2]) (rest := [.int (sX2_signAt T ((T.1 1) + x2))]) ⟨hx, hb, hml, hown, hts⟩ (c_J0_charAt l (zA z) adK adV i hi x2 (wl_in hi i0 c7)) (cwV 1 hts (good_V w_ml_X2_100 w_im_J0_charAt_5068e w_se_J0_charAt_5068e w_in_J0 w_co_J0_charAt_5068e) rfl rfl rfl ⟨rfl, hd_J0_charAt⟩ ⟨Nat.le_of_ble_eq_true rfl, Nat.le_of_ble_eq_true rfl⟩) (se_V hSE hS hi) rfl rfl hl.1 rfl (lv_room (Nat.le_of_ble_eq_true rfl)) dX2_lettersOf_22 ⟨Nat.zero_le _, Nat.zero_le _⟩)) ?_
        refine lv_icmp_ne (tgt := 34) hx hb dX2_lettersOf_25 (by decide) (fun c25 => ?_) (fun c25 => ?_)
        · have hv := (if_neg c25).symm.trans hv
          refine lv_iload_n hx hb dX2_lettersOf_34 rfl (lv_at hl 2 rfl) ?_
          exact W.iret (v := x2) hx hb hr (fun t ht hW => ⟨x2, rfl, hv, ht⟩) (fun _ h => nomatch h) dX2_lettersOf_35 (hlocks := hlocks)
        · have hv := (if_pos c25).symm.trans hv
          refine lv_iinc (v := x2 + 1) (lv' := [(2, .int (x2 + 1)), (0, .ref (z 1)), (1, .ref (adK i))]) hx hb dX2_lettersOf_28 hl (k := 2) rfl rfl (by decide) rfl (fun ls hl => ?_)
          refine lv_goto (tgt := 2) hx hb dX2_lettersOf_31 (by decide) ?_
          exact ih (x2 + 1) (upM_s c7 hm) (nn_inc i0 c7) hv ls (lv_sub hl [1, 2, 0] rfl)
  exact LOOP _ 0 (Nat.lt_succ_self _) (by decide) hv ls (lv_sub hl [1, 2, 0] rfl)
theorem hd_X2_readWord : yX2_readWord.cls ≠ "java/lang/invoke/MethodHandle" ∧ yX2_readWord.cls ≠ "java/lang/invoke/VarHandle" ∧ (parseMethodDescriptor yX2_readWord.desc).map (fun d => d.parameters.length) = some 0 := by decide +kernel
def LX2_readWord_4 (T : OF) : Nat → Int32 → Int32 → Int32 × OF
  | 0 => fun _ _ => (0, T)
  | n + 1 => fun x1 x2 => (if 5 ≤ x2 then ((-1), (stS T 1 ((T.1 1) + x1))) else (if (sX2_lettersOf T (spI x2)) = (nI (wlen.getD (spI x2) 0)) then (x2, (stS T 1 ((T.1 1) + (sX2_lettersOf T (spI x2))))) else (LX2_readWord_4 T n (if x1 < (sX2_lettersOf T (spI x2)) then (sX2_lettersOf T (spI x2)) else x1) (x2 + 1))))
theorem LX2_readWord_4_eq (T : OF) (n : Nat) (x1 : Int32) (x2 : Int32) : LX2_readWord_4 T (n + 1) x1 x2 = (if 5 ≤ x2 then ((-1), (stS T 1 ((T.1 1) + x1))) else (if (sX2_lettersOf T (spI x2)) = (nI (wlen.getD (spI x2) 0)) then (x2, (stS T 1 ((T.1 1) + (sX2_lettersOf T (spI x2))))) else (LX2_readWord_4 T n (if x1 < (sX2_lettersOf T (spI x2)) then (sX2_lettersOf T (spI x2)) else x1) (x2 + 1)))) := rfl
def sX2_readWord (T : OF) : Int32 × OF := (LX2_readWord_4 T (upM 5 0 + 1) 0 0)
set_option maxHeartbeats 4000000 in
set_option maxRecDepth 100000 in
theorem c_X2_readWord (l : Launch) (D : va_G) (cs : Nat → ClassId) (z : Nat → Nat) (A : Nat → Nat → Nat) (T : OF) (adK adV : Nat → Nat) (hd : tD z A) : Met l yX2_readWord (wc yX2_readWord cX2_readWord 5 (some .int)) ({ frames := 5, cells := 0, slots := 0, locals := 107 } : Room) (va_Pc [.ref (z 1)] (ZS D cs z A T adK adV)) (va_Qi (fun (r9 : Int32) (u : OF) => r9 = (sX2_readWord T).1 ∧ u = (sX2_readWord T).2) (fun u t => va_P D vwC (zW cs z A u) t.heap) (zA z)) 0 0 (zA z) := by
  obtain ⟨v, hv⟩ : ∃ v, sX2_readWord T = v := ⟨_, rfl⟩
  rw [hv]
  refine met_g (lv := [(0, .ref (z 1))]) (by decide) (Nat.le_of_ble_eq_true rfl) rfl ?_
  intro p e s m args below meth c ls hx hb hr hml hts hown hlocks hin hB0 hl
  obtain ⟨⟨hP, hE⟩, hSE⟩ := hB0
  have hown : s.vm.findClass RX2 = some m.cls := hown
  have hK := hE.1
  have hP : va_P D vwC (zW cs z A T) s.heap := hP
  have hS : va_S (zA z) s.heap s.heap [] := va_S.rf
  unfold sX2_readWord at hv
  refine lv_iconst (v := 0) hx hb dX2_readWord_0 (by decide) ?_
  refine lv_istore_n (lv' := [(1, .int 0), (0, .ref (z 1))]) hx hb dX2_readWord_1 rfl hl (by decide) rfl (fun ls hl => ?_)
  refine lv_iconst (v := 0) hx hb dX2_readWord_2 (by decide) ?_
  refine lv_istore_n (lv' := [(2, .int 0), (1, .int 0), (0, .ref (z 1))]) hx hb dX2_readWord_3 rfl hl (by decide) rfl (fun ls hl => ?_)
  have LOOP : ∀ (n : Nat) (x1 : Int32) (x2 : Int32), upM 5 x2 < n → LX2_readWord_4 T n x1 x2 = v → ∀ (H : Heap) (locs : List Loc), va_P D vwC (zW cs z A T) H → va_S (zA z) s.heap H locs → ∀ ls : Array Slot, lv_has ls 5 [(0, .ref (z 1)), (1, .int x1), (2, .int x2)] → W p l e ({ frames := 5, cells := 0, slots := 0, locals := 107 } : Room) s m args below meth c H locs 0 0 (MQ below (va_Qi (fun (r9 : Int32) (u : OF) => r9 = v.1 ∧ u = v.2) (fun u t => va_P D vwC (zW cs z A u) t.heap) (zA z)) args s 0 0 (zA z)) (F0 m 4 ls []) := by
    clear hv
    intro n
    induction n with
    | zero => intro x1 x2 hm; exact absurd hm (Nat.not_lt_zero _)
    | succ n ih =>
      intro x1 x2 hm hv H locs hP hS ls hl
      have hv := (LX2_readWord_4_eq T n x1 x2).symm.trans hv
      refine lv_iload_n hx hb dX2_readWord_4 rfl (lv_at hl 2 rfl) ?_
      refine lv_iconst (v := 5) hx hb dX2_readWord_5 (by decide) ?_
      refine lv_icmp_ge (tgt := 56) hx hb dX2_readWord_6 (by decide) (fun c6 => ?_) (fun c6 => ?_)
      · have hv := (if_pos c6).symm.trans hv
        refine lv_aload_n hx hb dX2_readWord_56 rfl (lv_at hl 0 rfl) ?_
        refine lv_dup hx hb dX2_readWord_57 rfl ?_
        refine va_get (D := D) (ci := 2) (v := .int (T.1 1)) (C := RX2) (T := TX2) (N := 7) hx hb hts iw_X2 hown hK hP 1 rfl rfl 2 (by decide) (hts _ w_fl_X2_36) (fun _ h9 => h9) rfl dX2_readWord_58 ?_
        refine lv_iload_n hx hb dX2_readWord_61 rfl (lv_at hl 1 rfl) ?_
        refine lv_iadd hx hb dX2_readWord_62 ?_
        refine va_put (D := D) (ci := 2) (v := .int ((T.1 1) + x1)) (ty := .int) (C := RX2) (T := TX2) (N := 7) hx hb hts iw_X2 tyX2 tyX2_ok nmX2 hown hK hP (z_D cs A T hd) hS 1 rfl rfl 2 (by decide) (hts _ w_fl_X2_36) (fun _ h9 => h9) rfl (by decide +kernel) rfl rfl (Nat.le_of_ble_eq_true rfl) dX2_readWord_63 (fun H locs hP _ hS => ?_)
        have hP : va_P D vwC (zW cs z A (stS T 1 ((T.1 1) + x1))) H := hP
        refine lv_iconst (v := (-1)) hx hb dX2_readWord_66 (by decide) ?_
        exact W.iret (v := (-1)) hx hb hr (fun t ht hW => ⟨⟨(-1), (stS T 1 ((T.1 1) + x1)), rfl, pair_eq hv, pw ht hP⟩, hS.F ht⟩) hS.2.2 dX2_readWord_67 (hlocks := hlocks)
      · have hv := (if_neg c6).symm.trans hv
        refine lv_iload_n hx hb dX2_readWord_9 rfl (lv_at hl 2 rfl) ?_
        refine va_csr (run_c (va_runS (As := [.int x2]) (rest := []) ⟨hx, hb, hml, hown, hts⟩ (c_X2_spelling l (zA z) adK adV x2) (cwS 1 hts (good_S w_ml_X2_80 w_st_X2_spelling w_in_X2 w_co_X2_spelling) rfl rfl rfl ⟨rfl, hd_X2_spelling⟩ ⟨Nat.le_of_ble_eq_true rfl, Nat.le_of_ble_eq_true rfl⟩) (se_S hSE hS) rfl rfl hl.1 rfl (lv_room (Nat.le_of_ble_eq_true rfl)) dX2_readWord_10 ⟨Nat.zero_le _, Nat.zero_le _⟩)) (fun k9 hk9 => ?_)
        obtain rfl : k9 = spI x2 := hk9
        refine lv_astore_n (lv' := [(3, .ref (adK (spI x2))), (0, .ref (z 1)), (1, .int x1), (2, .int x2)]) hx hb dX2_readWord_13 rfl hl (by decide) rfl (fun ls hl => ?_)
        refine lv_aload_n hx hb dX2_readWord_14 rfl (lv_at hl 1 rfl) ?_
        refine lv_aload_n hx hb dX2_readWord_15 rfl (lv_at hl 0 rfl) ?_
        refine ro_i (sX2_lettersOf T (spI x2)) (run_c (va_runV (As := [.ref (adK (spI x2))]) (rest := []) ⟨hx, hb, hml, hown, hts⟩ (c_X2_lettersOf l D cs z A T adK adV (spI x2) (spI_lt _)) (cwV 1 hts (good_V w_ml_X2_84 w_im_X2_lettersOf w_se_X2_lettersOf w_in_X2 w_co_X2_lettersOf) rfl rfl rfl ⟨rfl, hd_X2_lettersOf⟩ ⟨Nat.le_of_ble_eq_true rfl, Nat.le_of_ble_eq_true rfl⟩) (zs_V (C := RX2) (T9 := TX2) (N := 7) (ci := 2) (q0 := 1) hP hE hSE hS rfl rfl) rfl rfl hl.1 rfl (lv_room (Nat.le_of_ble_eq_true rfl)) dX2_readWord_16 ⟨Nat.zero_le _, Nat.zero_le _⟩)) ?_
        refine lv_istore (lv' := [(4, .int (sX2_lettersOf T (spI x2))), (3, .ref (adK (spI x2))), (0, .ref (z 1)), (1, .int x1), (2, .int x2)]) hx hb dX2_readWord_19 hl (by decide) rfl (fun ls hl => ?_)
        refine lv_iload hx hb dX2_readWord_21 (lv_at hl 0 rfl) ?_
        refine lv_aload_n hx hb dX2_readWord_23 rfl (lv_at hl 1 rfl) ?_
        refine ro_i (nI (wlen.getD (spI x2) 0)) (run_c (va_runV (As := []) (rest := [.int (sX2_lettersOf T (spI x2))]) ⟨hx, hb, hml, hown, hts⟩ (c_J0_length l (zA z) adK adV (spI x2) (spI_lt _)) (cwV 0 hts (good_V w_ml_X2_88 w_im_J0_length_8abf5 w_se_J0_length_8abf5 w_in_J0 w_co_J0_length_8abf5) rfl rfl rfl ⟨rfl, hd_J0_length⟩ ⟨Nat.le_of_ble_eq_true rfl, Nat.le_of_ble_eq_true rfl⟩) (se_V hSE hS (spI_lt _)) rfl rfl hl.1 rfl (lv_room (Nat.le_of_ble_eq_true rfl)) dX2_readWord_24 ⟨Nat.zero_le _, Nat.zero_le _⟩)) ?_
        refine lv_icmp_ne (tgt := 43) hx hb dX2_readWord_27 (by decide) (fun c27 => ?_) (fun c27 => ?_)
        · have hv := (if_neg c27).symm.trans hv
          refine lv_iload_n hx hb dX2_readWord_43 rfl (lv_at hl 3 rfl) ?_
          refine lv_iload hx hb dX2_readWord_44 (lv_at hl 0 rfl) ?_
          refine va_mmax hx hb (by rw [hml, hl.1]) hown (hts _ w_ml_X2_92) (hts _ w_st_J9_max_7cf53) (hts _ w_in_J9) (hts _ w_co_J9_max_7cf53) (Nat.le_of_ble_eq_true rfl) (Nat.le_of_ble_eq_true rfl) (Nat.zero_le _) (Nat.zero_le _) dX2_readWord_46 ?_
          refine lv_istore_n (lv' := [(1, .int (if x1 < (sX2_lettersOf T (spI x2)) then (sX2_lettersOf T (spI x2)) else x1)), (4, .int (sX2_lettersOf T (spI x2))), (3, .ref (adK (spI x2))), (0, .ref (z 1)), (2, .int x2)]) hx hb dX2_readWord_49 rfl hl (by decide) rfl (fun ls hl => ?_)
          refine lv_iinc (v := x2 + 1) (lv' := [(2, .int (x2 + 1)), (1, .int (if x1 < (sX2_lettersOf T (spI x2)) then (sX2_lettersOf T (spI x2)) else x1)), (4, .int (sX2_lettersOf T (spI x2))), (3, .ref (adK (spI x2))), (0, .ref (z 1))]) hx hb dX2_readWord_50 hl (k := 4) rfl rfl (by decide) rfl (fun ls hl => ?_)
          refine lv_goto (tgt := 4) hx hb dX2_readWord_53 (by decide) ?_
          exact ih (if x1 < (sX2_lettersOf T (spI x2)) then (sX2_lettersOf T (spI x2)) else x1) (x2 + 1) (upM_s c6 hm) hv _ _ hP hS ls (lv_sub hl [4, 1, 0] rfl)
        · have hv := (if_pos c27).symm.trans hv
          refine lv_aload_n hx hb dX2_readWord_30 rfl (lv_at hl 2 rfl) ?_
          refine lv_dup hx hb dX2_readWord_31 rfl ?_
          refine va_get (D := D) (ci := 2) (v := .int (T.1 1)) (C := RX2) (T := TX2) (N := 7) hx hb hts iw_X2 hown hK hP 1 rfl rfl 2 (by decide) (hts _ w_fl_X2_36) (fun _ h9 => h9) rfl dX2_readWord_32 ?_
          refine lv_iload hx hb dX2_readWord_35 (lv_at hl 0 rfl) ?_
          refine lv_iadd hx hb dX2_readWord_37 ?_
          refine va_put (D := D) (ci := 2) (v := .int ((T.1 1) + (sX2_lettersOf T (spI x2)))) (ty := .int) (C := RX2) (T := TX2) (N := 7) hx hb hts iw_X2 tyX2 tyX2_ok nmX2 hown hK hP (z_D cs A T hd) hS 1 rfl rfl 2 (by decide) (hts _ w_fl_X2_36) (fun _ h9 => h9) rfl (by decide +kernel) rfl rfl (Nat.le_of_ble_eq_true rfl) dX2_readWord_38 (fun H locs hP _ hS => ?_)
          have hP : va_P D vwC (zW cs z A (stS T 1 ((T.1 1) + (sX2_lettersOf T (spI x2))))) H := hP
          refine lv_iload_n hx hb dX2_readWord_41 rfl (lv_at hl 4 rfl) ?_
          exact W.iret (v := x2) hx hb hr (fun t ht hW => ⟨⟨x2, (stS T 1 ((T.1 1) + (sX2_lettersOf T (spI x2)))), rfl, pair_eq hv, pw ht hP⟩, hS.F ht⟩) hS.2.2 dX2_readWord_42 (hlocks := hlocks)
  exact LOOP _ 0 0 (Nat.lt_succ_self _) hv _ _ hP hS ls (lv_sub hl [2, 1, 0] rfl)
theorem hd_X2_readOrder : yX2_readOrder.cls ≠ "java/lang/invoke/MethodHandle" ∧ yX2_readOrder.cls ≠ "java/lang/invoke/VarHandle" ∧ (parseMethodDescriptor yX2_readOrder.desc).map (fun d => d.parameters.length) = some 0 := by decide +kernel
def sX2_readOrder (T : OF) : Bool × OF := (if ((sX2_readWord T).1) = 0 then ((sX2_keepOrder ((sX2_readNumber ((sX2_readWord T).2) 0 9).2) ((sX2_readWord T).1) ((sX2_readNumber ((sX2_readWord T).2) 0 9).1) 0).1, ((sX2_keepOrder ((sX2_readNumber ((sX2_readWord T).2) 0 9).2) ((sX2_readWord T).1) ((sX2_readNumber ((sX2_readWord T).2) 0 9).1) 0).2)) else (if ((sX2_readWord T).1) = 1 then ((sX2_readParts ((sX2_readWord T).2) ((sX2_readWord T).1) 9 58 11).1, ((sX2_readParts ((sX2_readWord T).2) ((sX2_readWord T).1) 9 58 11).2)) else (if ((sX2_readWord T).1) = 2 then ((sX2_readParts ((sX2_readWord T).2) ((sX2_readWord T).1) 9 64 3).1, ((sX2_readParts ((sX2_readWord T).2) ((sX2_readWord T).1) 9 64 3).2)) else (if ((sX2_readWord T).1) = 3 then ((sX2_readParts ((sX2_readWord T).2) ((sX2_readWord T).1) 23 47 2).1, ((sX2_readParts ((sX2_readWord T).2) ((sX2_readWord T).1) 23 47 2).2)) else (if ((sX2_readWord T).1) = 4 then ((sX2_readDays ((sX2_readWord T).2) ((sX2_readWord T).1)).1, ((sX2_readDays ((sX2_readWord T).2) ((sX2_readWord T).1)).2)) else (false, ((sX2_readWord T).2)))))))
set_option maxHeartbeats 4000000 in
set_option maxRecDepth 100000 in
theorem c_X2_readOrder (l : Launch) (D : va_G) (cs : Nat → ClassId) (z : Nat → Nat) (A : Nat → Nat → Nat) (T : OF) (adK adV : Nat → Nat) (hd : tD z A) : Met l yX2_readOrder (wc yX2_readOrder cX2_readOrder 2 (some .boolean)) ({ frames := 6, cells := 0, slots := 0, locals := 131 } : Room) (va_Pc [.ref (z 1)] (ZS D cs z A T adK adV)) (va_Qi (fun (r9 : Int32) (u : OF) => r9 = b2i (sX2_readOrder T).1 ∧ u = (sX2_readOrder T).2) (fun u t => va_P D vwC (zW cs z A u) t.heap) (zA z)) 0 0 (zA z) := by
  obtain ⟨v, hv⟩ : ∃ v, sX2_readOrder T = v := ⟨_, rfl⟩
  rw [hv]
  refine met_g (lv := [(0, .ref (z 1))]) (by decide) (Nat.le_of_ble_eq_true rfl) rfl ?_
  intro p e s m args below meth c ls hx hb hr hml hts hown hlocks hin hB0 hl
  obtain ⟨⟨hP, hE⟩, hSE⟩ := hB0
  have hown : s.vm.findClass RX2 = some m.cls := hown
  have hK := hE.1
  have hP : va_P D vwC (zW cs z A T) s.heap := hP
  have hS : va_S (zA z) s.heap s.heap [] := va_S.rf
  unfold sX2_readOrder at hv
  refine lv_aload_n hx hb dX2_readOrder_0 rfl (lv_at hl 0 rfl) ?_
  refine w_i (sX2_readWord T) (va_runV (As := []) (rest := []) ⟨hx, hb, hml, hown, hts⟩ (c_X2_readWord l D cs z A T adK adV hd) (cwV 0 hts (good_V w_ml_X2_47 w_im_X2_readWord w_se_X2_readWord w_in_X2 w_co_X2_readWord) rfl rfl rfl ⟨rfl, hd_X2_readWord⟩ ⟨Nat.le_of_ble_eq_true rfl, Nat.le_of_ble_eq_true rfl⟩) (zs_V (C := RX2) (T9 := TX2) (N := 7) (ci := 2) (q0 := 1) hP hE hSE hS rfl rfl) rfl rfl hl.1 rfl (lv_room (Nat.le_of_ble_eq_true rfl)) dX2_readOrder_1 ⟨Nat.zero_le _, Nat.zero_le _⟩) hS (fun _ _ h => h) (fun _ h => h) (fun t locs hB hz hk hS => ?_)
  have hP : va_P D vwC (zW cs z A ((sX2_readWord T).2)) t.heap := hB
  refine lv_istore_n (lv' := [(1, .int ((sX2_readWord T).1)), (0, .ref (z 1))]) hx hb dX2_readOrder_4 rfl hl (by decide) rfl (fun ls hl => ?_)
  refine lv_iload_n hx hb dX2_readOrder_5 rfl (lv_at hl 0 rfl) ?_
  by_cases c6_0 : ((sX2_readWord T).1) = 0
  · have hv := (if_pos c6_0).symm.trans hv
    refine lv_tableIn (off := 34) (tgt := 40) hx hb dX2_readOrder_6 (by rw [c6_0]; decide) (by rw [c6_0]; decide) (by rw [c6_0]; rfl) (by decide) ?_
    refine lv_aload_n hx hb dX2_readOrder_40 rfl (lv_at hl 1 rfl) ?_
    refine lv_iload_n hx hb dX2_readOrder_41 rfl (lv_at hl 0 rfl) ?_
    refine lv_aload_n hx hb dX2_readOrder_42 rfl (lv_at hl 1 rfl) ?_
    refine lv_iconst (v := 0) hx hb dX2_readOrder_43 (by decide) ?_
    refine lv_bipush (v := 9) hx hb dX2_readOrder_44 (by decide) ?_
    refine w_i (sX2_readNumber ((sX2_readWord T).2) 0 9) (va_runV (As := [.int 0, .int 9]) (rest := [.int ((sX2_readWord T).1), .ref (z 1)]) ⟨hx, hb, hml, hown, hts⟩ (c_X2_readNumber l D cs z A ((sX2_readWord T).2) 0 9 hd) (cwV 2 hts (good_V w_ml_X2_51 w_im_X2_readNumber w_se_X2_readNumber w_in_X2 w_co_X2_readNumber) rfl rfl rfl ⟨rfl, hd_X2_readNumber⟩ ⟨Nat.le_of_ble_eq_true rfl, Nat.le_of_ble_eq_true rfl⟩) (pe_W (C := RX2) (T := TX2) (N := 7) (ci := 2) (q0 := 1) hP hE rfl rfl) rfl rfl hl.1 rfl (lv_room (Nat.le_of_ble_eq_true rfl)) dX2_readOrder_46 ⟨Nat.zero_le _, Nat.zero_le _⟩) hS (fun _ _ h => h) (fun _ h => h) (fun t locs hB hz hk hS => ?_)
    have hP : va_P D vwC (zW cs z A ((sX2_readNumber ((sX2_readWord T).2) 0 9).2)) t.heap := hB
    refine lv_iconst (v := 0) hx hb dX2_readOrder_49 (by decide) ?_
    refine w_b (sX2_keepOrder ((sX2_readNumber ((sX2_readWord T).2) 0 9).2) ((sX2_readWord T).1) ((sX2_readNumber ((sX2_readWord T).2) 0 9).1) 0) (va_runV (As := [.int ((sX2_readWord T).1), .int ((sX2_readNumber ((sX2_readWord T).2) 0 9).1), .int 0]) (rest := []) ⟨hx, hb, hml, hown, hts⟩ (c_X2_keepOrder l D cs z A ((sX2_readNumber ((sX2_readWord T).2) 0 9).2) ((sX2_readWord T).1) ((sX2_readNumber ((sX2_readWord T).2) 0 9).1) 0 hd) (cwV 3 hts (good_V w_ml_X2_55 w_im_X2_keepOrder w_se_X2_keepOrder w_in_X2 w_co_X2_keepOrder) rfl rfl rfl ⟨rfl, hd_X2_keepOrder⟩ ⟨Nat.le_of_ble_eq_true rfl, Nat.le_of_ble_eq_true rfl⟩) (pe_W (C := RX2) (T := TX2) (N := 7) (ci := 2) (q0 := 1) hP hE rfl rfl) rfl rfl hl.1 rfl (lv_room (Nat.le_of_ble_eq_true rfl)) dX2_readOrder_50 ⟨Nat.zero_le _, Nat.zero_le _⟩) hS (fun _ _ h => h) (fun _ h => h) (fun t locs hB hz hk hS => ?_)
    have hP : va_P D vwC (zW cs z A ((sX2_keepOrder ((sX2_readNumber ((sX2_readWord T).2) 0 9).2) ((sX2_readWord T).1) ((sX2_readNumber ((sX2_readWord T).2) 0 9).1) 0).2)) t.heap := hB
    exact W.zret (ty := .boolean) (v := b2i (sX2_keepOrder ((sX2_readNumber ((sX2_readWord T).2) 0 9).2) ((sX2_readWord T).1) ((sX2_readNumber ((sX2_readWord T).2) 0 9).1) 0).1) hx hb hr (b2i_nar ((sX2_keepOrder ((sX2_readNumber ((sX2_readWord T).2) 0 9).2) ((sX2_readWord T).1) ((sX2_readNumber ((sX2_readWord T).2) 0 9).1) 0).1)) (fun t ht hW => ⟨⟨b2i (sX2_keepOrder ((sX2_readNumber ((sX2_readWord T).2) 0 9).2) ((sX2_readWord T).1) ((sX2_readNumber ((sX2_readWord T).2) 0 9).1) 0).1, ((sX2_keepOrder ((sX2_readNumber ((sX2_readWord T).2) 0 9).2) ((sX2_readWord T).1) ((sX2_readNumber ((sX2_readWord T).2) 0 9).1) 0).2), rfl, pairb_eq hv, pw ht hP⟩, hS.F ht⟩) hS.2.2 dX2_readOrder_53 (hlocks := hlocks)
  · have hv := (if_neg c6_0).symm.trans hv
    by_cases c6_1 : ((sX2_readWord T).1) = 1
    · have hv := (if_pos c6_1).symm.trans hv
      refine lv_tableIn (off := 48) (tgt := 54) hx hb dX2_readOrder_6 (by rw [c6_1]; decide) (by rw [c6_1]; decide) (by rw [c6_1]; rfl) (by decide) ?_
      refine lv_aload_n hx hb dX2_readOrder_54 rfl (lv_at hl 1 rfl) ?_
      refine lv_iload_n hx hb dX2_readOrder_55 rfl (lv_at hl 0 rfl) ?_
      refine lv_bipush (v := 9) hx hb dX2_readOrder_56 (by decide) ?_
      refine lv_bipush (v := 58) hx hb dX2_readOrder_58 (by decide) ?_
      refine lv_bipush (v := 11) hx hb dX2_readOrder_60 (by decide) ?_
      refine w_b (sX2_readParts ((sX2_readWord T).2) ((sX2_readWord T).1) 9 58 11) (va_runV (As := [.int ((sX2_readWord T).1), .int 9, .int 58, .int 11]) (rest := []) ⟨hx, hb, hml, hown, hts⟩ (c_X2_readParts l D cs z A ((sX2_readWord T).2) ((sX2_readWord T).1) 9 58 11 hd) (cwV 4 hts (good_V w_ml_X2_59 w_im_X2_readParts w_se_X2_readParts w_in_X2 w_co_X2_readParts) rfl rfl rfl ⟨rfl, hd_X2_readParts⟩ ⟨Nat.le_of_ble_eq_true rfl, Nat.le_of_ble_eq_true rfl⟩) (pe_W (C := RX2) (T := TX2) (N := 7) (ci := 2) (q0 := 1) hP hE rfl rfl) rfl rfl hl.1 rfl (lv_room (Nat.le_of_ble_eq_true rfl)) dX2_readOrder_62 ⟨Nat.zero_le _, Nat.zero_le _⟩) hS (fun _ _ h => h) (fun _ h => h) (fun t locs hB hz hk hS => ?_)
      have hP : va_P D vwC (zW cs z A ((sX2_readParts ((sX2_readWord T).2) ((sX2_readWord T).1) 9 58 11).2)) t.heap := hB
      exact W.zret (ty := .boolean) (v := b2i (sX2_readParts ((sX2_readWord T).2) ((sX2_readWord T).1) 9 58 11).1) hx hb hr (b2i_nar ((sX2_readParts ((sX2_readWord T).2) ((sX2_readWord T).1) 9 58 11).1)) (fun t ht hW => ⟨⟨b2i (sX2_readParts ((sX2_readWord T).2) ((sX2_readWord T).1) 9 58 11).1, ((sX2_readParts ((sX2_readWord T).2) ((sX2_readWord T).1) 9 58 11).2), rfl, pairb_eq hv, pw ht hP⟩, hS.F ht⟩) hS.2.2 dX2_readOrder_65 (hlocks := hlocks)
    · have hv := (if_neg c6_1).symm.trans hv
      by_cases c6_2 : ((sX2_readWord T).1) = 2
      · have hv := (if_pos c6_2).symm.trans hv
        refine lv_tableIn (off := 60) (tgt := 66) hx hb dX2_readOrder_6 (by rw [c6_2]; decide) (by rw [c6_2]; decide) (by rw [c6_2]; rfl) (by decide) ?_
        refine lv_aload_n hx hb dX2_readOrder_66 rfl (lv_at hl 1 rfl) ?_
        refine lv_iload_n hx hb dX2_readOrder_67 rfl (lv_at hl 0 rfl) ?_
        refine lv_bipush (v := 9) hx hb dX2_readOrder_68 (by decide) ?_
        refine lv_bipush (v := 64) hx hb dX2_readOrder_70 (by decide) ?_
        refine lv_iconst (v := 3) hx hb dX2_readOrder_72 (by decide) ?_
        refine w_b (sX2_readParts ((sX2_readWord T).2) ((sX2_readWord T).1) 9 64 3) (va_runV (As := [.int ((sX2_readWord T).1), .int 9, .int 64, .int 3]) (rest := []) ⟨hx, hb, hml, hown, hts⟩ (c_X2_readParts l D cs z A ((sX2_readWord T).2) ((sX2_readWord T).1) 9 64 3 hd) (cwV 4 hts (good_V w_ml_X2_59 w_im_X2_readParts w_se_X2_readParts w_in_X2 w_co_X2_readParts) rfl rfl rfl ⟨rfl, hd_X2_readParts⟩ ⟨Nat.le_of_ble_eq_true rfl, Nat.le_of_ble_eq_true rfl⟩) (pe_W (C := RX2) (T := TX2) (N := 7) (ci := 2) (q0 := 1) hP hE rfl rfl) rfl rfl hl.1 rfl (lv_room (Nat.le_of_ble_eq_true rfl)) dX2_readOrder_73 ⟨Nat.zero_le _, Nat.zero_le _⟩) hS (fun _ _ h => h) (fun _ h => h) (fun t locs hB hz hk hS => ?_)
        have hP : va_P D vwC (zW cs z A ((sX2_readParts ((sX2_readWord T).2) ((sX2_readWord T).1) 9 64 3).2)) t.heap := hB
        exact W.zret (ty := .boolean) (v := b2i (sX2_readParts ((sX2_readWord T).2) ((sX2_readWord T).1) 9 64 3).1) hx hb hr (b2i_nar ((sX2_readParts ((sX2_readWord T).2) ((sX2_readWord T).1) 9 64 3).1)) (fun t ht hW => ⟨⟨b2i (sX2_readParts ((sX2_readWord T).2) ((sX2_readWord T).1) 9 64 3).1, ((sX2_readParts ((sX2_readWord T).2) ((sX2_readWord T).1) 9 64 3).2), rfl, pairb_eq hv, pw ht hP⟩, hS.F ht⟩) hS.2.2 dX2_readOrder_76 (hlocks := hlocks)
      · have hv := (if_neg c6_2).symm.trans hv
        by_cases c6_3 : ((sX2_readWord T).1) = 3
        · have hv := (if_pos c6_3).symm.trans hv
          refine lv_tableIn (off := 71) (tgt := 77) hx hb dX2_readOrder_6 (by rw [c6_3]; decide) (by rw [c6_3]; decide) (by rw [c6_3]; rfl) (by decide) ?_
          refine lv_aload_n hx hb dX2_readOrder_77 rfl (lv_at hl 1 rfl) ?_
          refine lv_iload_n hx hb dX2_readOrder_78 rfl (lv_at hl 0 rfl) ?_
          refine lv_bipush (v := 23) hx hb dX2_readOrder_79 (by decide) ?_
          refine lv_bipush (v := 47) hx hb dX2_readOrder_81 (by decide) ?_
          refine lv_iconst (v := 2) hx hb dX2_readOrder_83 (by decide) ?_
          refine w_b (sX2_readParts ((sX2_readWord T).2) ((sX2_readWord T).1) 23 47 2) (va_runV (As := [.int ((sX2_readWord T).1), .int 23, .int 47, .int 2]) (rest := []) ⟨hx, hb, hml, hown, hts⟩ (c_X2_readParts l D cs z A ((sX2_readWord T).2) ((sX2_readWord T).1) 23 47 2 hd) (cwV 4 hts (good_V w_ml_X2_59 w_im_X2_readParts w_se_X2_readParts w_in_X2 w_co_X2_readParts) rfl rfl rfl ⟨rfl, hd_X2_readParts⟩ ⟨Nat.le_of_ble_eq_true rfl, Nat.le_of_ble_eq_true rfl⟩) (pe_W (C := RX2) (T := TX2) (N := 7) (ci := 2) (q0 := 1) hP hE rfl rfl) rfl rfl hl.1 rfl (lv_room (Nat.le_of_ble_eq_true rfl)) dX2_readOrder_84 ⟨Nat.zero_le _, Nat.zero_le _⟩) hS (fun _ _ h => h) (fun _ h => h) (fun t locs hB hz hk hS => ?_)
          have hP : va_P D vwC (zW cs z A ((sX2_readParts ((sX2_readWord T).2) ((sX2_readWord T).1) 23 47 2).2)) t.heap := hB
          exact W.zret (ty := .boolean) (v := b2i (sX2_readParts ((sX2_readWord T).2) ((sX2_readWord T).1) 23 47 2).1) hx hb hr (b2i_nar ((sX2_readParts ((sX2_readWord T).2) ((sX2_readWord T).1) 23 47 2).1)) (fun t ht hW => ⟨⟨b2i (sX2_readParts ((sX2_readWord T).2) ((sX2_readWord T).1) 23 47 2).1, ((sX2_readParts ((sX2_readWord T).2) ((sX2_readWord T).1) 23 47 2).2), rfl, pairb_eq hv, pw ht hP⟩, hS.F ht⟩) hS.2.2 dX2_readOrder_87 (hlocks := hlocks)
        · have hv := (if_neg c6_3).symm.trans hv
          by_cases c6_4 : ((sX2_readWord T).1) = 4
          · have hv := (if_pos c6_4).symm.trans hv
            refine lv_tableIn (off := 82) (tgt := 88) hx hb dX2_readOrder_6 (by rw [c6_4]; decide) (by rw [c6_4]; decide) (by rw [c6_4]; rfl) (by decide) ?_
            refine lv_aload_n hx hb dX2_readOrder_88 rfl (lv_at hl 1 rfl) ?_
            refine lv_iload_n hx hb dX2_readOrder_89 rfl (lv_at hl 0 rfl) ?_
            refine w_b (sX2_readDays ((sX2_readWord T).2) ((sX2_readWord T).1)) (va_runV (As := [.int ((sX2_readWord T).1)]) (rest := []) ⟨hx, hb, hml, hown, hts⟩ (c_X2_readDays l D cs z A ((sX2_readWord T).2) ((sX2_readWord T).1) hd) (cwV 1 hts (good_V w_ml_X2_63 w_im_X2_readDays w_se_X2_readDays w_in_X2 w_co_X2_readDays) rfl rfl rfl ⟨rfl, hd_X2_readDays⟩ ⟨Nat.le_of_ble_eq_true rfl, Nat.le_of_ble_eq_true rfl⟩) (pe_W (C := RX2) (T := TX2) (N := 7) (ci := 2) (q0 := 1) hP hE rfl rfl) rfl rfl hl.1 rfl (lv_room (Nat.le_of_ble_eq_true rfl)) dX2_readOrder_90 ⟨Nat.zero_le _, Nat.zero_le _⟩) hS (fun _ _ h => h) (fun _ h => h) (fun t locs hB hz hk hS => ?_)
            have hP : va_P D vwC (zW cs z A ((sX2_readDays ((sX2_readWord T).2) ((sX2_readWord T).1)).2)) t.heap := hB
            exact W.zret (ty := .boolean) (v := b2i (sX2_readDays ((sX2_readWord T).2) ((sX2_readWord T).1)).1) hx hb hr (b2i_nar ((sX2_readDays ((sX2_readWord T).2) ((sX2_readWord T).1)).1)) (fun t ht hW => ⟨⟨b2i (sX2_readDays ((sX2_readWord T).2) ((sX2_readWord T).1)).1, ((sX2_readDays ((sX2_readWord T).2) ((sX2_readWord T).1)).2), rfl, pairb_eq hv, pw ht hP⟩, hS.F ht⟩) hS.2.2 dX2_readOrder_93 (hlocks := hlocks)
          · have hv := (if_neg c6_4).symm.trans hv
            have e0 : ((sX2_readWord T).1).toInt ≠ 0 := sw_ne c6_0
            have e1 : ((sX2_readWord T).1).toInt ≠ 1 := sw_ne c6_1
            have e2 : ((sX2_readWord T).1).toInt ≠ 2 := sw_ne c6_2
            have e3 : ((sX2_readWord T).1).toInt ≠ 3 := sw_ne c6_3
            have e4 : ((sX2_readWord T).1).toInt ≠ 4 := sw_ne c6_4
            refine lv_tableOut (tgt := 94) hx hb dX2_readOrder_6 (by omega) (by decide) ?_
            refine lv_iconst (v := 0) hx hb dX2_readOrder_94 (by decide) ?_
            exact W.zret (ty := .boolean) (v := 0) hx hb hr (b2i_nar false) (fun t ht hW => ⟨⟨0, ((sX2_readWord T).2), rfl, pairb_eq hv, pw ht hP⟩, hS.F ht⟩) hS.2.2 dX2_readOrder_95 (hlocks := hlocks)
theorem hd_X2_readOrders : yX2_readOrders.cls ≠ "java/lang/invoke/MethodHandle" ∧ yX2_readOrders.cls ≠ "java/lang/invoke/VarHandle" ∧ (parseMethodDescriptor yX2_readOrders.desc).map (fun d => d.parameters.length) = some 0 := by decide +kernel
def LX2_readOrders_12 (T : OF) : Nat → Int32 → OF → Int32 × OF
  | 0 => fun _ _ => (0, T)
  | n + 1 => fun x1 O9 => (if 24 ≤ x1 then ((O9.1 1), O9) else (if ((sX2_readOrder O9).1) = true then (if ((sX2_readOrder O9).2.1 1) < ((sX2_readOrder O9).2.1 0) then (if ((sX2_readSign ((sX2_readOrder O9).2) 59).1) = true then (LX2_readOrders_12 T n (x1 + 1) ((sX2_readSign ((sX2_readOrder O9).2) 59).2)) else (((sX2_readSign ((sX2_readOrder O9).2) 59).2.1 1), ((sX2_readSign ((sX2_readOrder O9).2) 59).2))) else ((-1), ((sX2_readOrder O9).2))) else (((sX2_readOrder O9).2.1 1), ((sX2_readOrder O9).2))))
theorem LX2_readOrders_12_eq (T : OF) (n : Nat) (x1 : Int32) (O9 : OF) : LX2_readOrders_12 T (n + 1) x1 O9 = (if 24 ≤ x1 then ((O9.1 1), O9) else (if ((sX2_readOrder O9).1) = true then (if ((sX2_readOrder O9).2.1 1) < ((sX2_readOrder O9).2.1 0) then (if ((sX2_readSign ((sX2_readOrder O9).2) 59).1) = true then (LX2_readOrders_12 T n (x1 + 1) ((sX2_readSign ((sX2_readOrder O9).2) 59).2)) else (((sX2_readSign ((sX2_readOrder O9).2) 59).2.1 1), ((sX2_readSign ((sX2_readOrder O9).2) 59).2))) else ((-1), ((sX2_readOrder O9).2))) else (((sX2_readOrder O9).2.1 1), ((sX2_readOrder O9).2)))) := rfl
def sX2_readOrders (T : OF) : Int32 × OF := (LX2_readOrders_12 T (upM 24 0 + 1) 0 (stS (stS T 1 0) 2 0))
set_option maxHeartbeats 4000000 in
set_option maxRecDepth 100000 in
theorem c_X2_readOrders (l : Launch) (D : va_G) (cs : Nat → ClassId) (z : Nat → Nat) (A : Nat → Nat → Nat) (T : OF) (adK adV : Nat → Nat) (hd : tD z A) : Met l yX2_readOrders (wc yX2_readOrders cX2_readOrders 2 (some .int)) ({ frames := 7, cells := 0, slots := 0, locals := 152 } : Room) (va_Pc [.ref (z 1)] (ZS D cs z A T adK adV)) (va_Qi (fun (r9 : Int32) (u : OF) => r9 = (sX2_readOrders T).1 ∧ u = (sX2_readOrders T).2) (fun u t => va_P D vwC (zW cs z A u) t.heap) (zA z)) 0 0 (zA z) := by
  obtain ⟨v, hv⟩ : ∃ v, sX2_readOrders T = v := ⟨_, rfl⟩
  rw [hv]
  refine met_g (lv := [(0, .ref (z 1))]) (by decide) (Nat.le_of_ble_eq_true rfl) rfl ?_
  intro p e s m args below meth c ls hx hb hr hml hts hown hlocks hin hB0 hl
  obtain ⟨⟨hP, hE⟩, hSE⟩ := hB0
  have hown : s.vm.findClass RX2 = some m.cls := hown
  have hK := hE.1
  have hP : va_P D vwC (zW cs z A T) s.heap := hP
  have hS : va_S (zA z) s.heap s.heap [] := va_S.rf
  unfold sX2_readOrders at hv
  refine lv_aload_n hx hb dX2_readOrders_0 rfl (lv_at hl 0 rfl) ?_
  refine lv_iconst (v := 0) hx hb dX2_readOrders_1 (by decide) ?_
  refine va_put (D := D) (ci := 2) (v := .int 0) (ty := .int) (C := RX2) (T := TX2) (N := 7) hx hb hts iw_X2 tyX2 tyX2_ok nmX2 hown hK hP (z_D cs A T hd) hS 1 rfl rfl 2 (by decide) (hts _ w_fl_X2_36) (fun _ h9 => h9) rfl (by decide +kernel) rfl rfl (Nat.le_of_ble_eq_true rfl) dX2_readOrders_2 (fun H locs hP _ hS => ?_)
  have hP : va_P D vwC (zW cs z A (stS T 1 0)) H := hP
  refine lv_aload_n hx hb dX2_readOrders_5 rfl (lv_at hl 0 rfl) ?_
  refine lv_iconst (v := 0) hx hb dX2_readOrders_6 (by decide) ?_
  refine va_put (D := D) (ci := 2) (v := .int 0) (ty := .int) (C := RX2) (T := TX2) (N := 7) hx hb hts iw_X2 tyX2 tyX2_ok nmX2 hown hK hP (z_D cs A (stS T 1 0) hd) hS 1 rfl rfl 6 (by decide) (hts _ w_fl_X2_29) (fun _ h9 => h9) rfl (by decide +kernel) rfl rfl (Nat.le_of_ble_eq_true rfl) dX2_readOrders_7 (fun H locs hP _ hS => ?_)
  have hP : va_P D vwC (zW cs z A (stS (stS T 1 0) 2 0)) H := hP
  refine lv_iconst (v := 0) hx hb dX2_readOrders_10 (by decide) ?_
  refine lv_istore_n (lv' := [(1, .int 0), (0, .ref (z 1))]) hx hb dX2_readOrders_11 rfl hl (by decide) rfl (fun ls hl => ?_)
  have LOOP : ∀ (n : Nat) (x1 : Int32) (O9 : OF), upM 24 x1 < n → LX2_readOrders_12 T n x1 O9 = v → ∀ (H : Heap) (locs : List Loc), va_P D vwC (zW cs z A O9) H → va_S (zA z) s.heap H locs → ∀ ls : Array Slot, lv_has ls 2 [(0, .ref (z 1)), (1, .int x1)] → W p l e ({ frames := 7, cells := 0, slots := 0, locals := 152 } : Room) s m args below meth c H locs 0 0 (MQ below (va_Qi (fun (r9 : Int32) (u : OF) => r9 = v.1 ∧ u = v.2) (fun u t => va_P D vwC (zW cs z A u) t.heap) (zA z)) args s 0 0 (zA z)) (F0 m 12 ls []) := by
    clear hv
    intro n
    induction n with
    | zero => intro x1 O9 hm; exact absurd hm (Nat.not_lt_zero _)
    | succ n ih =>
      intro x1 O9 hm hv H locs hP hS ls hl
      have hv := (LX2_readOrders_12_eq T n x1 O9).symm.trans hv
      refine lv_iload_n hx hb dX2_readOrders_12 rfl (lv_at hl 1 rfl) ?_
      refine lv_bipush (v := 24) hx hb dX2_readOrders_13 (by decide) ?_
      refine lv_icmp_ge (tgt := 63) hx hb dX2_readOrders_15 (by decide) (fun c15 => ?_) (fun c15 => ?_)
      · have hv := (if_pos c15).symm.trans hv
        refine lv_aload_n hx hb dX2_readOrders_63 rfl (lv_at hl 0 rfl) ?_
        refine va_get (D := D) (ci := 2) (v := .int (O9.1 1)) (C := RX2) (T := TX2) (N := 7) hx hb hts iw_X2 hown hK hP 1 rfl rfl 2 (by decide) (hts _ w_fl_X2_36) (fun _ h9 => h9) rfl dX2_readOrders_64 ?_
        exact W.iret (v := (O9.1 1)) hx hb hr (fun t ht hW => ⟨⟨(O9.1 1), O9, rfl, pair_eq hv, pw ht hP⟩, hS.F ht⟩) hS.2.2 dX2_readOrders_67 (hlocks := hlocks)
      · have hv := (if_neg c15).symm.trans hv
        refine lv_aload_n hx hb dX2_readOrders_18 rfl (lv_at hl 0 rfl) ?_
        refine w_b (sX2_readOrder O9) (va_runV (As := []) (rest := []) ⟨hx, hb, hml, hown, hts⟩ (c_X2_readOrder l D cs z A O9 adK adV hd) (cwV 0 hts (good_V w_ml_X2_39 w_im_X2_readOrder w_se_X2_readOrder w_in_X2 w_co_X2_readOrder) rfl rfl rfl ⟨rfl, hd_X2_readOrder⟩ ⟨Nat.le_of_ble_eq_true rfl, Nat.le_of_ble_eq_true rfl⟩) (zs_V (C := RX2) (T9 := TX2) (N := 7) (ci := 2) (q0 := 1) hP hE hSE hS rfl rfl) rfl rfl hl.1 rfl (lv_room (Nat.le_of_ble_eq_true rfl)) dX2_readOrders_19 ⟨Nat.zero_le _, Nat.zero_le _⟩) hS (fun _ _ h => h) (fun _ h => h) (fun t locs hB hz hk hS => ?_)
        have hP : va_P D vwC (zW cs z A ((sX2_readOrder O9).2)) t.heap := hB
        refine lv_if_ne (tgt := 30) hx hb dX2_readOrders_22 (by decide) (fun c22 => ?_) (fun c22 => ?_)
        · have c22 := b2i_t c22
          have hv := (if_pos c22).symm.trans hv
          refine lv_aload_n hx hb dX2_readOrders_30 rfl (lv_at hl 0 rfl) ?_
          refine va_get (D := D) (ci := 2) (v := .int ((sX2_readOrder O9).2.1 1)) (C := RX2) (T := TX2) (N := 7) hx hb hts iw_X2 hown hK hP 1 rfl rfl 2 (by decide) (hts _ w_fl_X2_36) (fun _ h9 => h9) rfl dX2_readOrders_31 ?_
          refine lv_aload_n hx hb dX2_readOrders_34 rfl (lv_at hl 0 rfl) ?_
          refine va_get (D := D) (ci := 2) (v := .int ((sX2_readOrder O9).2.1 0)) (C := RX2) (T := TX2) (N := 7) hx hb hts iw_X2 hown hK hP 1 rfl rfl 1 (by decide) (hts _ w_fl_X2_25) (fun _ h9 => h9) rfl dX2_readOrders_35 ?_
          refine lv_icmp_lt (tgt := 43) hx hb dX2_readOrders_38 (by decide) (fun c38 => ?_) (fun c38 => ?_)
          · have hv := (if_pos c38).symm.trans hv
            refine lv_aload_n hx hb dX2_readOrders_43 rfl (lv_at hl 0 rfl) ?_
            refine lv_bipush (v := 59) hx hb dX2_readOrders_44 (by decide) ?_
            refine w_b (sX2_readSign ((sX2_readOrder O9).2) 59) (va_runV (As := [.int 59]) (rest := []) ⟨hx, hb, hml, hown, hts⟩ (c_X2_readSign l D cs z A ((sX2_readOrder O9).2) 59 hd) (cwV 1 hts (good_V w_ml_X2_43 w_im_X2_readSign w_se_X2_readSign w_in_X2 w_co_X2_readSign) rfl rfl rfl ⟨rfl, hd_X2_readSign⟩ ⟨Nat.le_of_ble_eq_true rfl, Nat.le_of_ble_eq_true rfl⟩) (pe_W (C := RX2) (T := TX2) (N := 7) (ci := 2) (q0 := 1) hP hE rfl rfl) rfl rfl hl.1 rfl (lv_room (Nat.le_of_ble_eq_true rfl)) dX2_readOrders_46 ⟨Nat.zero_le _, Nat.zero_le _⟩) hS (fun _ _ h => h) (fun _ h => h) (fun t locs hB hz hk hS => ?_)
            have hP : va_P D vwC (zW cs z A ((sX2_readSign ((sX2_readOrder O9).2) 59).2)) t.heap := hB
            refine lv_if_ne (tgt := 57) hx hb dX2_readOrders_49 (by decide) (fun c49 => ?_) (fun c49 => ?_)
            · have c49 := b2i_t c49
              have hv := (if_pos c49).symm.trans hv
              refine lv_iinc (v := x1 + 1) (lv' := [(1, .int (x1 + 1)), (0, .ref (z 1))]) hx hb dX2_readOrders_57 hl (k := 1) rfl rfl (by decide) rfl (fun ls hl => ?_)
              refine lv_goto (tgt := 12) hx hb dX2_readOrders_60 (by decide) ?_
              exact ih (x1 + 1) ((sX2_readSign ((sX2_readOrder O9).2) 59).2) (upM_s c15 hm) hv _ _ hP hS ls (lv_sub hl [1, 0] rfl)
            · have c49 := b2i_f c49
              have hv := (if_neg c49).symm.trans hv
              refine lv_aload_n hx hb dX2_readOrders_52 rfl (lv_at hl 0 rfl) ?_
              refine va_get (D := D) (ci := 2) (v := .int ((sX2_readSign ((sX2_readOrder O9).2) 59).2.1 1)) (C := RX2) (T := TX2) (N := 7) hx hb hts iw_X2 hown hK hP 1 rfl rfl 2 (by decide) (hts _ w_fl_X2_36) (fun _ h9 => h9) rfl dX2_readOrders_53 ?_
              exact W.iret (v := ((sX2_readSign ((sX2_readOrder O9).2) 59).2.1 1)) hx hb hr (fun t ht hW => ⟨⟨((sX2_readSign ((sX2_readOrder O9).2) 59).2.1 1), ((sX2_readSign ((sX2_readOrder O9).2) 59).2), rfl, pair_eq hv, pw ht hP⟩, hS.F ht⟩) hS.2.2 dX2_readOrders_56 (hlocks := hlocks)
          · have hv := (if_neg c38).symm.trans hv
            refine lv_iconst (v := (-1)) hx hb dX2_readOrders_41 (by decide) ?_
            exact W.iret (v := (-1)) hx hb hr (fun t ht hW => ⟨⟨(-1), ((sX2_readOrder O9).2), rfl, pair_eq hv, pw ht hP⟩, hS.F ht⟩) hS.2.2 dX2_readOrders_42 (hlocks := hlocks)
        · have c22 := b2i_f c22
          have hv := (if_neg c22).symm.trans hv
          refine lv_aload_n hx hb dX2_readOrders_25 rfl (lv_at hl 0 rfl) ?_
          refine va_get (D := D) (ci := 2) (v := .int ((sX2_readOrder O9).2.1 1)) (C := RX2) (T := TX2) (N := 7) hx hb hts iw_X2 hown hK hP 1 rfl rfl 2 (by decide) (hts _ w_fl_X2_36) (fun _ h9 => h9) rfl dX2_readOrders_26 ?_
          exact W.iret (v := ((sX2_readOrder O9).2.1 1)) hx hb hr (fun t ht hW => ⟨⟨((sX2_readOrder O9).2.1 1), ((sX2_readOrder O9).2), rfl, pair_eq hv, pw ht hP⟩, hS.F ht⟩) hS.2.2 dX2_readOrders_29 (hlocks := hlocks)
  exact LOOP _ 0 (stS (stS T 1 0) 2 0) (Nat.lt_succ_self _) hv _ _ hP hS ls (lv_sub hl [1, 0] rfl)
