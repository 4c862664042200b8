theorem iftb {C : Prop} [Decidable C] {a : Bool} (h : ¬ (if C then a else true) = true) : C ∧ ¬ a = true := by
  by_cases e : C
  · rw [if_pos e] at h; exact ⟨e, h⟩
  · rw [if_neg e] at h; exact absurd rfl h
theorem ifbn {C : Prop} [Decidable C] {a : Bool} (h : ¬ (if C then true else a) = true) : ¬ C ∧ ¬ a = true := by
  by_cases e : C
  · rw [if_pos e] at h; exact absurd rfl h
  · rw [if_neg e] at h; exact ⟨e, h⟩
theorem dr_f {A B C : Prop} [Decidable A] [Decidable B] [Decidable C] (h : (if A then (if B then (0 : Int32) else 2) else (if C then (if B then 0 else 2) else 1)) = 0) : B := by
  by_cases b : B
  · exact b
  · rw [if_neg b] at h
    by_cases a : A
    · rw [if_pos a] at h; exact absurd h (by decide)
    · rw [if_neg a] at h
      by_cases c : C
      · rw [if_pos c] at h; exact absurd h (by decide)
      · rw [if_neg c] at h; exact absurd h (by decide)
theorem cd_in {r : Nat → Int32} (hv : MV r) (h : sX8_canDraw r = true) : vp_in (r 0) 10 := by
  unfold sX8_canDraw at h
  by_cases c : 10 ≤ r (0 : Int32).toNatClampNeg
  · rw [if_pos c] at h; exact nomatch h
  · exact vp_a rfl (fun q => by have := i32_lt.mp q; have := hv.1.1; have e0 : (0 : Int32).toInt = 0 := rfl; omega) c
theorem cp_in {r : Nat → Int32} (hv : MV r) (h : sX8_canPrint r = true) : vp_in (r 1) 24 := by
  unfold sX8_canPrint at h
  by_cases c : 24 ≤ r (1 : Int32).toNatClampNeg
  · rw [if_pos c] at h; exact nomatch h
  · exact vp_a rfl (fun q => by have := i32_lt.mp q; have := hv.2.1.1; have e0 : (0 : Int32).toInt = 0 := rfl; omega) c
theorem cb_in {r : Nat → Int32} {p : Int32} (hv : MV r) (h : sX8_canBuild r p = true) : vp_in (r 2) 30 := by
  unfold sX8_canBuild at h
  by_cases b : sX8_mayBuild r p = true
  · rw [if_pos b] at h
    by_cases c : 30 ≤ r (2 : Int32).toNatClampNeg
    · rw [if_pos c] at h; exact nomatch h
    · exact vp_a rfl (fun q => by have := i32_lt.mp q; have := hv.2.2.1.1; have e0 : (0 : Int32).toInt = 0 := rfl; omega) c
  · rw [if_neg b] at h; exact nomatch h
theorem dec_in {x : Int32} (h : vp_in x 15) (c : ¬ x = 0) : vp_in (x - 1) 14 := by
  have h1 := vp_in_iff.mp h
  have h2 : x.toInt ≠ (0 : Int32).toInt := fun q => c (Int32.toInt_inj.mp q)
  have e0 : (0 : Int32).toInt = 0 := rfl
  rw [vp_in_iff, Int32.toInt_sub]
  show 0 ≤ (x.toInt - 1).bmod (2 ^ 32) ∧ (x.toInt - 1).bmod (2 ^ 32) < (14 : Nat)
  rw [Int.bmod_eq_of_le (by omega) (by omega)]
  omega
theorem isSet_in {p q : Int32} (h : sX8_isSetting p q = true) : vp_in p 3 := by
  by_cases a : p = 0
  · rw [a]; unfold vp_in; decide
  by_cases b : p = 1
  · rw [b]; unfold vp_in; decide
  by_cases c : p = 2
  · rw [c]; unfold vp_in; decide
  exfalso
  unfold sX8_isSetting at h
  rw [if_neg a, if_neg b, if_neg c] at h
  exact nomatch h
theorem hd_X8_about : yX8_about.cls ≠ "java/lang/invoke/MethodHandle" ∧ yX8_about.cls ≠ "java/lang/invoke/VarHandle" ∧ (parseMethodDescriptor yX8_about.desc).map (fun d => d.parameters.length) = some 1 := by decide +kernel
def sX8_about (M : MS) (p1 : Int32) : Int32 × MS := (if (refB (b2i (if (sX8_in p1.toInt64 (0 : Int64) (9 : Int64)) = true then false else true))) = true then (0, (msS M 0 (b2i (if (sX8_in p1.toInt64 (0 : Int64) (9 : Int64)) = true then false else true)))) else (if p1 = 0 then ((M.1.2 1) (0 : Int32).toNatClampNeg, (msS M 0 (b2i (if (sX8_in p1.toInt64 (0 : Int64) (9 : Int64)) = true then false else true)))) else (if p1 = 1 then ((M.1.2 1) (1 : Int32).toNatClampNeg, (msS M 0 (b2i (if (sX8_in p1.toInt64 (0 : Int64) (9 : Int64)) = true then false else true)))) else (if p1 = 2 then (sX8_out (M.1.2 1) false, (msS M 0 (b2i (if (sX8_in p1.toInt64 (0 : Int64) (9 : Int64)) = true then false else true)))) else (if p1 = 3 then (sX8_out (M.1.2 1) true, (msS M 0 (b2i (if (sX8_in p1.toInt64 (0 : Int64) (9 : Int64)) = true then false else true)))) else (if p1 = 4 then (sX8_overdue (M.1.2 1) ((M.1.2 1) (3 : Int32).toNatClampNeg), (msS M 0 (b2i (if (sX8_in p1.toInt64 (0 : Int64) (9 : Int64)) = true then false else true)))) else (if p1 = 5 then ((M.1.2 1) (2 : Int32).toNatClampNeg, (msS M 0 (b2i (if (sX8_in p1.toInt64 (0 : Int64) (9 : Int64)) = true then false else true)))) else (if p1 = 6 then (sX8_wrong (M.1.2 1), (msS M 0 (b2i (if (sX8_in p1.toInt64 (0 : Int64) (9 : Int64)) = true then false else true)))) else (if p1 = 7 then (sX8_many ((M.1.2 1) (8 : Int32).toNatClampNeg), (msS M 0 (b2i (if (sX8_in p1.toInt64 (0 : Int64) (9 : Int64)) = true then false else true)))) else (if p1 = 8 then ((M.1.2 1) (3 : Int32).toNatClampNeg, (msS M 0 (b2i (if (sX8_in p1.toInt64 (0 : Int64) (9 : Int64)) = true then false else true)))) else ((M.1.2 1) (4 : Int32).toNatClampNeg, (msS M 0 (b2i (if (sX8_in p1.toInt64 (0 : Int64) (9 : Int64)) = true then false else true))))))))))))))
set_option maxHeartbeats 4000000 in
set_option maxRecDepth 100000 in
theorem c_X8_about (l : Launch) (D : va_G) (cs : Nat → ClassId) (w : Nat → Nat) (M : MS) (p1 : Int32) (hd : mD w) (hv0 : MV (M.1.2 1)) : Met l yX8_about (wc yX8_about cX8_about 2 (some .int)) ({ frames := 4, cells := 0, slots := 0, locals := 87 } : Room) (va_Pc [.ref (w 0), .int p1] (PE D cs (mW cs w M))) (va_Qi (fun (r9 : Int32) (u : MS) => r9 = (sX8_about M p1).1 ∧ u = (sX8_about M p1).2) (fun u t => va_P D vwC (mW cs w u) t.heap) (mA w)) 0 0 (mA w) := by
  obtain ⟨v, hv⟩ : ∃ v, sX8_about M p1 = v := ⟨_, rfl⟩
  rw [hv]
  refine met_o (lv := [(0, .ref (w 0)), (1, .int p1)]) (by decide) (Nat.le_of_ble_eq_true rfl) rfl ?_
  intro p e s m args below meth c ls hx hb hr hml hts hown hlocks hin hP hE hl
  have hown : s.vm.findClass RX8 = some m.cls := hown
  have hK := hE.1
  have hP : va_P D vwC (mW cs w M) s.heap := hP
  have hS : va_S (mA w) s.heap s.heap [] := va_S.rf
  unfold sX8_about at hv
  refine lv_aload_n hx hb dX8_about_0 rfl (lv_at hl 0 rfl) ?_
  refine lv_iload_n hx hb dX8_about_1 rfl (lv_at hl 1 rfl) ?_
  refine lv_i2l hx hb dX8_about_2 rfl ?_
  refine lv_lconst (v := 0) hx hb dX8_about_3 (by decide) ?_
  refine lv_ldc2 (v := 9) hx hb hown (hts _ w_cn_X8_212) dX8_about_4 ?_
  refine ro_i (b2i (sX8_in p1.toInt64 (0 : Int64) (9 : Int64))) (run_c (va_runS (As := [.long p1.toInt64, .long (0 : Int64), .long (9 : Int64)]) (rest := [.ref (w 0)]) ⟨hx, hb, hml, hown, hts⟩ (c_X8_in l D cs p1.toInt64 (0 : Int64) (9 : Int64)) (cwS 3 hts (good_S w_ml_X8_42 w_st_X8_in w_in_X8 w_co_X8_in) rfl rfl rfl ⟨rfl, hd_X8_in⟩ ⟨Nat.le_of_ble_eq_true rfl, Nat.le_of_ble_eq_true rfl⟩) (pe_S (p_nil D _) hE) rfl rfl hl.1 rfl (lv_room (Nat.le_of_ble_eq_true rfl)) dX8_about_7 ⟨Nat.zero_le _, Nat.zero_le _⟩)) ?_
  refine join_i (J := 18) (ls := ls) (rest := [.ref (w 0)]) (b2i (if (sX8_in p1.toInt64 (0 : Int64) (9 : Int64)) = true then false else true)) ?_ (fun hJ => ?_)
  · refine w_b (refB (b2i (if (sX8_in p1.toInt64 (0 : Int64) (9 : Int64)) = true then false else true)), (msS M 0 (b2i (if (sX8_in p1.toInt64 (0 : Int64) (9 : Int64)) = true then false else true)))) (va_runV (As := [.int (b2i (if (sX8_in p1.toInt64 (0 : Int64) (9 : Int64)) = true then false else true))]) (rest := []) ⟨hx, hb, hml, hown, hts⟩ (c_X8_refused l D cs w M (b2i (if (sX8_in p1.toInt64 (0 : Int64) (9 : Int64)) = true then false else true)) hd) (cwV 1 hts (good_V w_ml_X8_105 w_im_X8_refused w_se_X8_refused w_in_X8 w_co_X8_refused) rfl rfl rfl ⟨rfl, hd_X8_refused⟩ ⟨Nat.le_of_ble_eq_true rfl, Nat.le_of_ble_eq_true rfl⟩) (pe_W (C := RX8) (T := TX8) (N := 14) (ci := 8) (q0 := 0) hP hE rfl rfl) rfl rfl hl.1 rfl (lv_room (Nat.le_of_ble_eq_true rfl)) dX8_about_18 ⟨Nat.zero_le _, Nat.zero_le _⟩) hS (fun _ _ h => h) (fun _ h => h) (fun t locs hB hz hk hS => ?_)
    have hP : va_P D vwC (mW cs w (msS M 0 (b2i (if (sX8_in p1.toInt64 (0 : Int64) (9 : Int64)) = true then false else true)))) t.heap := hB
    refine lv_if_eq (tgt := 26) hx hb dX8_about_21 (by decide) (fun c21 => ?_) (fun c21 => ?_)
    · have c21 := b2i_f c21
      have hv := (if_neg c21).symm.trans hv
      refine lv_iload_n hx hb dX8_about_26 rfl (lv_at hl 1 rfl) ?_
      by_cases c27_0 : p1 = 0
      · have hv := (if_pos c27_0).symm.trans hv
        refine lv_tableIn (off := 49) (tgt := 76) hx hb dX8_about_27 (by rw [c27_0]; decide) (by rw [c27_0]; decide) (by rw [c27_0]; rfl) (by decide) ?_
        refine lv_aload_n hx hb dX8_about_76 rfl (lv_at hl 0 rfl) ?_
        refine va_get (D := D) (ci := 8) (v := .ref (w 1)) (C := RX8) (T := TX8) (N := 14) hx hb hts iw_X8 hown hK hP 0 rfl rfl 1 (by decide) (hts _ w_fl_X8_7) (fun _ h9 => h9) rfl dX8_about_77 ?_
        refine lv_iconst (v := 0) hx hb dX8_about_80 (by decide) ?_
        refine va_iald (cA := cs 0) (n := 414) (f := (M.1.2 1)) hx hb hK hP 1 0 rfl rfl (by unfold vp_in; decide) dX8_about_81 ?_
        exact W.iret (v := (M.1.2 1) (0 : Int32).toNatClampNeg) hx hb hr (fun t ht hW => ⟨⟨(M.1.2 1) (0 : Int32).toNatClampNeg, (msS M 0 (b2i (if (sX8_in p1.toInt64 (0 : Int64) (9 : Int64)) = true then false else true))), rfl, pair_eq hv, pw ht hP⟩, hS.F ht⟩) hS.2.2 dX8_about_82 (hlocks := hlocks)
      · have hv := (if_neg c27_0).symm.trans hv
        by_cases c27_1 : p1 = 1
        · have hv := (if_pos c27_1).symm.trans hv
          refine lv_tableIn (off := 56) (tgt := 83) hx hb dX8_about_27 (by rw [c27_1]; decide) (by rw [c27_1]; decide) (by rw [c27_1]; rfl) (by decide) ?_
          refine lv_aload_n hx hb dX8_about_83 rfl (lv_at hl 0 rfl) ?_
          refine va_get (D := D) (ci := 8) (v := .ref (w 1)) (C := RX8) (T := TX8) (N := 14) hx hb hts iw_X8 hown hK hP 0 rfl rfl 1 (by decide) (hts _ w_fl_X8_7) (fun _ h9 => h9) rfl dX8_about_84 ?_
          refine lv_iconst (v := 1) hx hb dX8_about_87 (by decide) ?_
          refine va_iald (cA := cs 0) (n := 414) (f := (M.1.2 1)) hx hb hK hP 1 0 rfl rfl (by unfold vp_in; decide) dX8_about_88 ?_
          exact W.iret (v := (M.1.2 1) (1 : Int32).toNatClampNeg) hx hb hr (fun t ht hW => ⟨⟨(M.1.2 1) (1 : Int32).toNatClampNeg, (msS M 0 (b2i (if (sX8_in p1.toInt64 (0 : Int64) (9 : Int64)) = true then false else true))), rfl, pair_eq hv, pw ht hP⟩, hS.F ht⟩) hS.2.2 dX8_about_89 (hlocks := hlocks)
        · have hv := (if_neg c27_1).symm.trans hv
          by_cases c27_2 : p1 = 2
          · have hv := (if_pos c27_2).symm.trans hv
            refine lv_tableIn (off := 63) (tgt := 90) hx hb dX8_about_27 (by rw [c27_2]; decide) (by rw [c27_2]; decide) (by rw [c27_2]; rfl) (by decide) ?_
            refine lv_aload_n hx hb dX8_about_90 rfl (lv_at hl 0 rfl) ?_
            refine va_get (D := D) (ci := 8) (v := .ref (w 1)) (C := RX8) (T := TX8) (N := 14) hx hb hts iw_X8 hown hK hP 0 rfl rfl 1 (by decide) (hts _ w_fl_X8_7) (fun _ h9 => h9) rfl dX8_about_91 ?_
            refine lv_iconst (v := 0) hx hb dX8_about_94 (by decide) ?_
            refine ro_i (sX8_out (M.1.2 1) false) (run_c (va_runS (As := [.ref (w 1), .int (b2i false)]) (rest := []) ⟨hx, hb, hml, hown, hts⟩ (c_X8_out l D cs (w 1) (M.1.2 1) false hv0.2.1.2) (cwS 2 hts (good_S w_ml_X8_214 w_st_X8_out w_in_X8 w_co_X8_out) rfl rfl rfl ⟨rfl, hd_X8_out⟩ ⟨Nat.le_of_ble_eq_true rfl, Nat.le_of_ble_eq_true rfl⟩) (pe_S (hP.sub (ws' := rowW cs (w 1) (M.1.2 1)) [1] rfl) hE) rfl rfl hl.1 rfl (lv_room (Nat.le_of_ble_eq_true rfl)) dX8_about_95 ⟨Nat.zero_le _, Nat.zero_le _⟩)) ?_
            exact W.iret (v := sX8_out (M.1.2 1) false) hx hb hr (fun t ht hW => ⟨⟨sX8_out (M.1.2 1) false, (msS M 0 (b2i (if (sX8_in p1.toInt64 (0 : Int64) (9 : Int64)) = true then false else true))), rfl, pair_eq hv, pw ht hP⟩, hS.F ht⟩) hS.2.2 dX8_about_98 (hlocks := hlocks)
          · have hv := (if_neg c27_2).symm.trans hv
            by_cases c27_3 : p1 = 3
            · have hv := (if_pos c27_3).symm.trans hv
              refine lv_tableIn (off := 72) (tgt := 99) hx hb dX8_about_27 (by rw [c27_3]; decide) (by rw [c27_3]; decide) (by rw [c27_3]; rfl) (by decide) ?_
              refine lv_aload_n hx hb dX8_about_99 rfl (lv_at hl 0 rfl) ?_
              refine va_get (D := D) (ci := 8) (v := .ref (w 1)) (C := RX8) (T := TX8) (N := 14) hx hb hts iw_X8 hown hK hP 0 rfl rfl 1 (by decide) (hts _ w_fl_X8_7) (fun _ h9 => h9) rfl dX8_about_100 ?_
              refine lv_iconst (v := 1) hx hb dX8_about_103 (by decide) ?_
              refine ro_i (sX8_out (M.1.2 1) true) (run_c (va_runS (As := [.ref (w 1), .int (b2i true)]) (rest := []) ⟨hx, hb, hml, hown, hts⟩ (c_X8_out l D cs (w 1) (M.1.2 1) true hv0.2.1.2) (cwS 2 hts (good_S w_ml_X8_214 w_st_X8_out w_in_X8 w_co_X8_out) rfl rfl rfl ⟨rfl, hd_X8_out⟩ ⟨Nat.le_of_ble_eq_true rfl, Nat.le_of_ble_eq_true rfl⟩) (pe_S (hP.sub (ws' := rowW cs (w 1) (M.1.2 1)) [1] rfl) hE) rfl rfl hl.1 rfl (lv_room (Nat.le_of_ble_eq_true rfl)) dX8_about_104 ⟨Nat.zero_le _, Nat.zero_le _⟩)) ?_
              exact W.iret (v := sX8_out (M.1.2 1) true) hx hb hr (fun t ht hW => ⟨⟨sX8_out (M.1.2 1) true, (msS M 0 (b2i (if (sX8_in p1.toInt64 (0 : Int64) (9 : Int64)) = true then false else true))), rfl, pair_eq hv, pw ht hP⟩, hS.F ht⟩) hS.2.2 dX8_about_107 (hlocks := hlocks)
            · have hv := (if_neg c27_3).symm.trans hv
              by_cases c27_4 : p1 = 4
              · have hv := (if_pos c27_4).symm.trans hv
                refine lv_tableIn (off := 81) (tgt := 108) hx hb dX8_about_27 (by rw [c27_4]; decide) (by rw [c27_4]; decide) (by rw [c27_4]; rfl) (by decide) ?_
                refine lv_aload_n hx hb dX8_about_108 rfl (lv_at hl 0 rfl) ?_
                refine va_get (D := D) (ci := 8) (v := .ref (w 1)) (C := RX8) (T := TX8) (N := 14) hx hb hts iw_X8 hown hK hP 0 rfl rfl 1 (by decide) (hts _ w_fl_X8_7) (fun _ h9 => h9) rfl dX8_about_109 ?_
                refine lv_aload_n hx hb dX8_about_112 rfl (lv_at hl 0 rfl) ?_
                refine va_get (D := D) (ci := 8) (v := .ref (w 1)) (C := RX8) (T := TX8) (N := 14) hx hb hts iw_X8 hown hK hP 0 rfl rfl 1 (by decide) (hts _ w_fl_X8_7) (fun _ h9 => h9) rfl dX8_about_113 ?_
                refine lv_iconst (v := 3) hx hb dX8_about_116 (by decide) ?_
                refine va_iald (cA := cs 0) (n := 414) (f := (M.1.2 1)) hx hb hK hP 1 0 rfl rfl (by unfold vp_in; decide) dX8_about_117 ?_
                refine ro_i (sX8_overdue (M.1.2 1) ((M.1.2 1) (3 : Int32).toNatClampNeg)) (run_c (va_runS (As := [.ref (w 1), .int ((M.1.2 1) (3 : Int32).toNatClampNeg)]) (rest := []) ⟨hx, hb, hml, hown, hts⟩ (c_X8_overdue l D cs (w 1) (M.1.2 1) ((M.1.2 1) (3 : Int32).toNatClampNeg) hv0.2.1.2) (cwS 2 hts (good_S w_ml_X8_94 w_st_X8_overdue w_in_X8 w_co_X8_overdue) rfl rfl rfl ⟨rfl, hd_X8_overdue⟩ ⟨Nat.le_of_ble_eq_true rfl, Nat.le_of_ble_eq_true rfl⟩) (pe_S (hP.sub (ws' := rowW cs (w 1) (M.1.2 1)) [1] rfl) hE) rfl rfl hl.1 rfl (lv_room (Nat.le_of_ble_eq_true rfl)) dX8_about_118 ⟨Nat.zero_le _, Nat.zero_le _⟩)) ?_
                exact W.iret (v := sX8_overdue (M.1.2 1) ((M.1.2 1) (3 : Int32).toNatClampNeg)) hx hb hr (fun t ht hW => ⟨⟨sX8_overdue (M.1.2 1) ((M.1.2 1) (3 : Int32).toNatClampNeg), (msS M 0 (b2i (if (sX8_in p1.toInt64 (0 : Int64) (9 : Int64)) = true then false else true))), rfl, pair_eq hv, pw ht hP⟩, hS.F ht⟩) hS.2.2 dX8_about_121 (hlocks := hlocks)
              · have hv := (if_neg c27_4).symm.trans hv
                by_cases c27_5 : p1 = 5
                · have hv := (if_pos c27_5).symm.trans hv
                  refine lv_tableIn (off := 95) (tgt := 122) hx hb dX8_about_27 (by rw [c27_5]; decide) (by rw [c27_5]; decide) (by rw [c27_5]; rfl) (by decide) ?_
                  refine lv_aload_n hx hb dX8_about_122 rfl (lv_at hl 0 rfl) ?_
                  refine va_get (D := D) (ci := 8) (v := .ref (w 1)) (C := RX8) (T := TX8) (N := 14) hx hb hts iw_X8 hown hK hP 0 rfl rfl 1 (by decide) (hts _ w_fl_X8_7) (fun _ h9 => h9) rfl dX8_about_123 ?_
                  refine lv_iconst (v := 2) hx hb dX8_about_126 (by decide) ?_
                  refine va_iald (cA := cs 0) (n := 414) (f := (M.1.2 1)) hx hb hK hP 1 0 rfl rfl (by unfold vp_in; decide) dX8_about_127 ?_
                  exact W.iret (v := (M.1.2 1) (2 : Int32).toNatClampNeg) hx hb hr (fun t ht hW => ⟨⟨(M.1.2 1) (2 : Int32).toNatClampNeg, (msS M 0 (b2i (if (sX8_in p1.toInt64 (0 : Int64) (9 : Int64)) = true then false else true))), rfl, pair_eq hv, pw ht hP⟩, hS.F ht⟩) hS.2.2 dX8_about_128 (hlocks := hlocks)
                · have hv := (if_neg c27_5).symm.trans hv
                  by_cases c27_6 : p1 = 6
                  · have hv := (if_pos c27_6).symm.trans hv
                    refine lv_tableIn (off := 102) (tgt := 129) hx hb dX8_about_27 (by rw [c27_6]; decide) (by rw [c27_6]; decide) (by rw [c27_6]; rfl) (by decide) ?_
                    refine lv_aload_n hx hb dX8_about_129 rfl (lv_at hl 0 rfl) ?_
                    refine va_get (D := D) (ci := 8) (v := .ref (w 1)) (C := RX8) (T := TX8) (N := 14) hx hb hts iw_X8 hown hK hP 0 rfl rfl 1 (by decide) (hts _ w_fl_X8_7) (fun _ h9 => h9) rfl dX8_about_130 ?_
                    refine ro_i (sX8_wrong (M.1.2 1)) (run_c (va_runS (As := [.ref (w 1)]) (rest := []) ⟨hx, hb, hml, hown, hts⟩ (c_X8_wrong l D cs (w 1) (M.1.2 1) hv0) (cwS 1 hts (good_S w_ml_X8_90 w_st_X8_wrong w_in_X8 w_co_X8_wrong) rfl rfl rfl ⟨rfl, hd_X8_wrong⟩ ⟨Nat.le_of_ble_eq_true rfl, Nat.le_of_ble_eq_true rfl⟩) (pe_S (hP.sub (ws' := rowW cs (w 1) (M.1.2 1)) [1] rfl) hE) rfl rfl hl.1 rfl (lv_room (Nat.le_of_ble_eq_true rfl)) dX8_about_133 ⟨Nat.zero_le _, Nat.zero_le _⟩)) ?_
                    exact W.iret (v := sX8_wrong (M.1.2 1)) hx hb hr (fun t ht hW => ⟨⟨sX8_wrong (M.1.2 1), (msS M 0 (b2i (if (sX8_in p1.toInt64 (0 : Int64) (9 : Int64)) = true then false else true))), rfl, pair_eq hv, pw ht hP⟩, hS.F ht⟩) hS.2.2 dX8_about_136 (hlocks := hlocks)
                  · have hv := (if_neg c27_6).symm.trans hv
                    by_cases c27_7 : p1 = 7
                    · have hv := (if_pos c27_7).symm.trans hv
                      refine lv_tableIn (off := 110) (tgt := 137) hx hb dX8_about_27 (by rw [c27_7]; decide) (by rw [c27_7]; decide) (by rw [c27_7]; rfl) (by decide) ?_
                      refine lv_aload_n hx hb dX8_about_137 rfl (lv_at hl 0 rfl) ?_
                      refine va_get (D := D) (ci := 8) (v := .ref (w 1)) (C := RX8) (T := TX8) (N := 14) hx hb hts iw_X8 hown hK hP 0 rfl rfl 1 (by decide) (hts _ w_fl_X8_7) (fun _ h9 => h9) rfl dX8_about_138 ?_
                      refine lv_bipush (v := 8) hx hb dX8_about_141 (by decide) ?_
                      refine va_iald (cA := cs 0) (n := 414) (f := (M.1.2 1)) hx hb hK hP 1 0 rfl rfl (by unfold vp_in; decide) dX8_about_143 ?_
                      refine ro_i (sX8_many ((M.1.2 1) (8 : Int32).toNatClampNeg)) (run_c (va_runS (As := [.int ((M.1.2 1) (8 : Int32).toNatClampNeg)]) (rest := []) ⟨hx, hb, hml, hown, hts⟩ (c_X8_many l D cs ((M.1.2 1) (8 : Int32).toNatClampNeg)) (cwS 1 hts (good_S w_ml_X8_77 w_st_X8_many w_in_X8 w_co_X8_many) rfl rfl rfl ⟨rfl, hd_X8_many⟩ ⟨Nat.le_of_ble_eq_true rfl, Nat.le_of_ble_eq_true rfl⟩) (pe_S (p_nil D _) hE) rfl rfl hl.1 rfl (lv_room (Nat.le_of_ble_eq_true rfl)) dX8_about_144 ⟨Nat.zero_le _, Nat.zero_le _⟩)) ?_
                      exact W.iret (v := sX8_many ((M.1.2 1) (8 : Int32).toNatClampNeg)) hx hb hr (fun t ht hW => ⟨⟨sX8_many ((M.1.2 1) (8 : Int32).toNatClampNeg), (msS M 0 (b2i (if (sX8_in p1.toInt64 (0 : Int64) (9 : Int64)) = true then false else true))), rfl, pair_eq hv, pw ht hP⟩, hS.F ht⟩) hS.2.2 dX8_about_147 (hlocks := hlocks)
                    · have hv := (if_neg c27_7).symm.trans hv
                      by_cases c27_8 : p1 = 8
                      · have hv := (if_pos c27_8).symm.trans hv
                        refine lv_tableIn (off := 121) (tgt := 148) hx hb dX8_about_27 (by rw [c27_8]; decide) (by rw [c27_8]; decide) (by rw [c27_8]; rfl) (by decide) ?_
                        refine lv_aload_n hx hb dX8_about_148 rfl (lv_at hl 0 rfl) ?_
                        refine va_get (D := D) (ci := 8) (v := .ref (w 1)) (C := RX8) (T := TX8) (N := 14) hx hb hts iw_X8 hown hK hP 0 rfl rfl 1 (by decide) (hts _ w_fl_X8_7) (fun _ h9 => h9) rfl dX8_about_149 ?_
                        refine lv_iconst (v := 3) hx hb dX8_about_152 (by decide) ?_
                        refine va_iald (cA := cs 0) (n := 414) (f := (M.1.2 1)) hx hb hK hP 1 0 rfl rfl (by unfold vp_in; decide) dX8_about_153 ?_
                        exact W.iret (v := (M.1.2 1) (3 : Int32).toNatClampNeg) hx hb hr (fun t ht hW => ⟨⟨(M.1.2 1) (3 : Int32).toNatClampNeg, (msS M 0 (b2i (if (sX8_in p1.toInt64 (0 : Int64) (9 : Int64)) = true then false else true))), rfl, pair_eq hv, pw ht hP⟩, hS.F ht⟩) hS.2.2 dX8_about_154 (hlocks := hlocks)
                      · have hv := (if_neg c27_8).symm.trans hv
                        have e0 : p1.toInt ≠ 0 := sw_ne c27_0
                        have e1 : p1.toInt ≠ 1 := sw_ne c27_1
                        have e2 : p1.toInt ≠ 2 := sw_ne c27_2
                        have e3 : p1.toInt ≠ 3 := sw_ne c27_3
                        have e4 : p1.toInt ≠ 4 := sw_ne c27_4
                        have e5 : p1.toInt ≠ 5 := sw_ne c27_5
                        have e6 : p1.toInt ≠ 6 := sw_ne c27_6
                        have e7 : p1.toInt ≠ 7 := sw_ne c27_7
                        have e8 : p1.toInt ≠ 8 := sw_ne c27_8
                        refine lv_tableOut (tgt := 155) hx hb dX8_about_27 (by omega) (by decide) ?_
                        refine lv_aload_n hx hb dX8_about_155 rfl (lv_at hl 0 rfl) ?_
                        refine va_get (D := D) (ci := 8) (v := .ref (w 1)) (C := RX8) (T := TX8) (N := 14) hx hb hts iw_X8 hown hK hP 0 rfl rfl 1 (by decide) (hts _ w_fl_X8_7) (fun _ h9 => h9) rfl dX8_about_156 ?_
                        refine lv_iconst (v := 4) hx hb dX8_about_159 (by decide) ?_
                        refine va_iald (cA := cs 0) (n := 414) (f := (M.1.2 1)) hx hb hK hP 1 0 rfl rfl (by unfold vp_in; decide) dX8_about_160 ?_
                        exact W.iret (v := (M.1.2 1) (4 : Int32).toNatClampNeg) hx hb hr (fun t ht hW => ⟨⟨(M.1.2 1) (4 : Int32).toNatClampNeg, (msS M 0 (b2i (if (sX8_in p1.toInt64 (0 : Int64) (9 : Int64)) = true then false else true))), rfl, pair_eq hv, pw ht hP⟩, hS.F ht⟩) hS.2.2 dX8_about_161 (hlocks := hlocks)
    · have c21 := b2i_t c21
      have hv := (if_pos c21).symm.trans hv
      refine lv_iconst (v := 0) hx hb dX8_about_24 (by decide) ?_
      exact W.iret (v := 0) hx hb hr (fun t ht hW => ⟨⟨0, (msS M 0 (b2i (if (sX8_in p1.toInt64 (0 : Int64) (9 : Int64)) = true then false else true))), rfl, pair_eq hv, pw ht hP⟩, hS.F ht⟩) hS.2.2 dX8_about_25 (hlocks := hlocks)
  · refine lv_if_eq (tgt := 17) hx hb dX8_about_10 (by decide) (fun c10 => ?_) (fun c10 => ?_)
    · have c10 := b2i_f c10
      refine lv_iconst (v := 1) hx hb dX8_about_17 (by decide) ?_
      exact hJ _ (congrArg b2i ((if_neg c10).trans rfl))
    · have c10 := b2i_t c10
      refine lv_iconst (v := 0) hx hb dX8_about_13 (by decide) ?_
      refine lv_goto (tgt := 18) hx hb dX8_about_14 (by decide) ?_
      exact hJ _ (congrArg b2i ((if_pos c10).trans rfl))
theorem hd_X8_sheet : yX8_sheet.cls ≠ "java/lang/invoke/MethodHandle" ∧ yX8_sheet.cls ≠ "java/lang/invoke/VarHandle" ∧ (parseMethodDescriptor yX8_sheet.desc).map (fun d => d.parameters.length) = some 2 := by decide +kernel
def sX8_sheet (M : MS) (p1 : Int32) (p2 : Int32) : Int32 × MS := (if (refB (if (sX8_hasSheet (M.1.2 1) p1) = true then (if (sX8_in p2.toInt64 (0 : Int64) (7 : Int64)) = true then (0 : Int32) else (2 : Int32)) else (1 : Int32))) = true then (0, (msS M 0 (if (sX8_hasSheet (M.1.2 1) p1) = true then (if (sX8_in p2.toInt64 (0 : Int64) (7 : Int64)) = true then (0 : Int32) else (2 : Int32)) else (1 : Int32)))) else (if p2 = 0 then ((M.1.2 1) (10 + p1).toNatClampNeg, (msS M 0 (if (sX8_hasSheet (M.1.2 1) p1) = true then (if (sX8_in p2.toInt64 (0 : Int64) (7 : Int64)) = true then (0 : Int32) else (2 : Int32)) else (1 : Int32)))) else (if p2 = 1 then ((M.1.2 1) (20 + p1).toNatClampNeg, (msS M 0 (if (sX8_hasSheet (M.1.2 1) p1) = true then (if (sX8_in p2.toInt64 (0 : Int64) (7 : Int64)) = true then (0 : Int32) else (2 : Int32)) else (1 : Int32)))) else (if p2 = 2 then (b2i (if (sX8_has ((M.1.2 1) (8 : Int32).toNatClampNeg) p1) = true then true else false), (msS M 0 (if (sX8_hasSheet (M.1.2 1) p1) = true then (if (sX8_in p2.toInt64 (0 : Int64) (7 : Int64)) = true then (0 : Int32) else (2 : Int32)) else (1 : Int32)))) else (if p2 = 3 then (sX8_below (M.1.2 1) p1, (msS M 0 (if (sX8_hasSheet (M.1.2 1) p1) = true then (if (sX8_in p2.toInt64 (0 : Int64) (7 : Int64)) = true then (0 : Int32) else (2 : Int32)) else (1 : Int32)))) else (if p2 = 4 then (sX8_above (M.1.2 1) p1, (msS M 0 (if (sX8_hasSheet (M.1.2 1) p1) = true then (if (sX8_in p2.toInt64 (0 : Int64) (7 : Int64)) = true then (0 : Int32) else (2 : Int32)) else (1 : Int32)))) else (if p2 = 5 then (sX8_outOf (M.1.2 1) p1, (msS M 0 (if (sX8_hasSheet (M.1.2 1) p1) = true then (if (sX8_in p2.toInt64 (0 : Int64) (7 : Int64)) = true then (0 : Int32) else (2 : Int32)) else (1 : Int32)))) else (if p2 = 6 then (sX8_deep (M.1.2 1) p1, (msS M 0 (if (sX8_hasSheet (M.1.2 1) p1) = true then (if (sX8_in p2.toInt64 (0 : Int64) (7 : Int64)) = true then (0 : Int32) else (2 : Int32)) else (1 : Int32)))) else (sX8_wrongOf (M.1.2 1) p1, (msS M 0 (if (sX8_hasSheet (M.1.2 1) p1) = true then (if (sX8_in p2.toInt64 (0 : Int64) (7 : Int64)) = true then (0 : Int32) else (2 : Int32)) else (1 : Int32))))))))))))
set_option maxHeartbeats 4000000 in
set_option maxRecDepth 100000 in
theorem c_X8_sheet (l : Launch) (D : va_G) (cs : Nat → ClassId) (w : Nat → Nat) (M : MS) (p1 : Int32) (p2 : Int32) (hd : mD w) (hv0 : MV (M.1.2 1)) : Met l yX8_sheet (wc yX8_sheet cX8_sheet 3 (some .int)) ({ frames := 3, cells := 0, slots := 0, locals := 65 } : Room) (va_Pc [.ref (w 0), .int p1, .int p2] (PE D cs (mW cs w M))) (va_Qi (fun (r9 : Int32) (u : MS) => r9 = (sX8_sheet M p1 p2).1 ∧ u = (sX8_sheet M p1 p2).2) (fun u t => va_P D vwC (mW cs w u) t.heap) (mA w)) 0 0 (mA w) := by
  obtain ⟨v, hv⟩ : ∃ v, sX8_sheet M p1 p2 = v := ⟨_, rfl⟩
  rw [hv]
  refine met_o (lv := [(0, .ref (w 0)), (1, .int p1), (2, .int p2)]) (by decide) (Nat.le_of_ble_eq_true rfl) rfl ?_
  intro p e s m args below meth c ls hx hb hr hml hts hown hlocks hin hP hE hl
  have hown : s.vm.findClass RX8 = some m.cls := hown
  have hK := hE.1
  have hP : va_P D vwC (mW cs w M) s.heap := hP
  have hS : va_S (mA w) s.heap s.heap [] := va_S.rf
  unfold sX8_sheet at hv
  refine lv_aload_n hx hb dX8_sheet_0 rfl (lv_at hl 0 rfl) ?_
  refine lv_aload_n hx hb dX8_sheet_1 rfl (lv_at hl 0 rfl) ?_
  refine va_get (D := D) (ci := 8) (v := .ref (w 1)) (C := RX8) (T := TX8) (N := 14) hx hb hts iw_X8 hown hK hP 0 rfl rfl 1 (by decide) (hts _ w_fl_X8_7) (fun _ h9 => h9) rfl dX8_sheet_2 ?_
  refine lv_iload_n hx hb dX8_sheet_5 rfl (lv_at hl 1 rfl) ?_
  refine ro_i (b2i (sX8_hasSheet (M.1.2 1) p1)) (run_c (va_runS (As := [.ref (w 1), .int p1]) (rest := [.ref (w 0)]) ⟨hx, hb, hml, hown, hts⟩ (c_X8_hasSheet l D cs (w 1) (M.1.2 1) p1) (cwS 2 hts (good_S w_ml_X8_139 w_st_X8_hasSheet w_in_X8 w_co_X8_hasSheet) rfl rfl rfl ⟨rfl, hd_X8_hasSheet⟩ ⟨Nat.le_of_ble_eq_true rfl, Nat.le_of_ble_eq_true rfl⟩) (pe_S (hP.sub (ws' := rowW cs (w 1) (M.1.2 1)) [1] rfl) hE) rfl rfl hl.1 rfl (lv_room (Nat.le_of_ble_eq_true rfl)) dX8_sheet_6 ⟨Nat.zero_le _, Nat.zero_le _⟩)) ?_
  refine join_i (J := 33) (ls := ls) (rest := [.ref (w 0)]) ((if (sX8_hasSheet (M.1.2 1) p1) = true then (if (sX8_in p2.toInt64 (0 : Int64) (7 : Int64)) = true then (0 : Int32) else (2 : Int32)) else (1 : Int32))) ?_ (fun hJ => ?_)
  · refine w_b (refB (if (sX8_hasSheet (M.1.2 1) p1) = true then (if (sX8_in p2.toInt64 (0 : Int64) (7 : Int64)) = true then (0 : Int32) else (2 : Int32)) else (1 : Int32)), (msS M 0 (if (sX8_hasSheet (M.1.2 1) p1) = true then (if (sX8_in p2.toInt64 (0 : Int64) (7 : Int64)) = true then (0 : Int32) else (2 : Int32)) else (1 : Int32)))) (va_runV (As := [.int (if (sX8_hasSheet (M.1.2 1) p1) = true then (if (sX8_in p2.toInt64 (0 : Int64) (7 : Int64)) = true then (0 : Int32) else (2 : Int32)) else (1 : Int32))]) (rest := []) ⟨hx, hb, hml, hown, hts⟩ (c_X8_refused l D cs w M (if (sX8_hasSheet (M.1.2 1) p1) = true then (if (sX8_in p2.toInt64 (0 : Int64) (7 : Int64)) = true then (0 : Int32) else (2 : Int32)) else (1 : Int32)) hd) (cwV 1 hts (good_V w_ml_X8_105 w_im_X8_refused w_se_X8_refused w_in_X8 w_co_X8_refused) rfl rfl rfl ⟨rfl, hd_X8_refused⟩ ⟨Nat.le_of_ble_eq_true rfl, Nat.le_of_ble_eq_true rfl⟩) (pe_W (C := RX8) (T := TX8) (N := 14) (ci := 8) (q0 := 0) hP hE rfl rfl) rfl rfl hl.1 rfl (lv_room (Nat.le_of_ble_eq_true rfl)) dX8_sheet_33 ⟨Nat.zero_le _, Nat.zero_le _⟩) hS (fun _ _ h => h) (fun _ h => h) (fun t locs hB hz hk hS => ?_)
    have hP : va_P D vwC (mW cs w (msS M 0 (if (sX8_hasSheet (M.1.2 1) p1) = true then (if (sX8_in p2.toInt64 (0 : Int64) (7 : Int64)) = true then (0 : Int32) else (2 : Int32)) else (1 : Int32)))) t.heap := hB
    refine lv_if_eq (tgt := 41) hx hb dX8_sheet_36 (by decide) (fun c36 => ?_) (fun c36 => ?_)
    · have c36 := b2i_f c36
      have hv := (if_neg c36).symm.trans hv
      have f1 := ift (by decide) (rf0 c36)
      have f2 := hasS_t hv0.1.1 f1.1
      have f3 := f2.v hv0
      refine lv_iload_n hx hb dX8_sheet_41 rfl (lv_at hl 2 rfl) ?_
      by_cases c42_0 : p2 = 0
      · have hv := (if_pos c42_0).symm.trans hv
        refine lv_tableIn (off := 42) (tgt := 84) hx hb dX8_sheet_42 (by rw [c42_0]; decide) (by rw [c42_0]; decide) (by rw [c42_0]; rfl) (by decide) ?_
        refine lv_aload_n hx hb dX8_sheet_84 rfl (lv_at hl 0 rfl) ?_
        refine va_get (D := D) (ci := 8) (v := .ref (w 1)) (C := RX8) (T := TX8) (N := 14) hx hb hts iw_X8 hown hK hP 0 rfl rfl 1 (by decide) (hts _ w_fl_X8_7) (fun _ h9 => h9) rfl dX8_sheet_85 ?_
        refine lv_bipush (v := 10) hx hb dX8_sheet_88 (by decide) ?_
        refine lv_iload_n hx hb dX8_sheet_90 rfl (lv_at hl 1 rfl) ?_
        refine lv_iadd hx hb dX8_sheet_91 ?_
        refine va_iald (cA := cs 0) (n := 414) (f := (M.1.2 1)) hx hb hK hP 1 0 rfl rfl (vp_off (K := 10) rfl (by assumption) (by decide) (by decide)) dX8_sheet_92 ?_
        exact W.iret (v := (M.1.2 1) (10 + p1).toNatClampNeg) hx hb hr (fun t ht hW => ⟨⟨(M.1.2 1) (10 + p1).toNatClampNeg, (msS M 0 (if (sX8_hasSheet (M.1.2 1) p1) = true then (if (sX8_in p2.toInt64 (0 : Int64) (7 : Int64)) = true then (0 : Int32) else (2 : Int32)) else (1 : Int32))), rfl, pair_eq hv, pw ht hP⟩, hS.F ht⟩) hS.2.2 dX8_sheet_93 (hlocks := hlocks)
      · have hv := (if_neg c42_0).symm.trans hv
        by_cases c42_1 : p2 = 1
        · have hv := (if_pos c42_1).symm.trans hv
          refine lv_tableIn (off := 52) (tgt := 94) hx hb dX8_sheet_42 (by rw [c42_1]; decide) (by rw [c42_1]; decide) (by rw [c42_1]; rfl) (by decide) ?_
          refine lv_aload_n hx hb dX8_sheet_94 rfl (lv_at hl 0 rfl) ?_
          refine va_get (D := D) (ci := 8) (v := .ref (w 1)) (C := RX8) (T := TX8) (N := 14) hx hb hts iw_X8 hown hK hP 0 rfl rfl 1 (by decide) (hts _ w_fl_X8_7) (fun _ h9 => h9) rfl dX8_sheet_95 ?_
          refine lv_bipush (v := 20) hx hb dX8_sheet_98 (by decide) ?_
          refine lv_iload_n hx hb dX8_sheet_100 rfl (lv_at hl 1 rfl) ?_
          refine lv_iadd hx hb dX8_sheet_101 ?_
          refine va_iald (cA := cs 0) (n := 414) (f := (M.1.2 1)) hx hb hK hP 1 0 rfl rfl (vp_off (K := 20) rfl (by assumption) (by decide) (by decide)) dX8_sheet_102 ?_
          exact W.iret (v := (M.1.2 1) (20 + p1).toNatClampNeg) hx hb hr (fun t ht hW => ⟨⟨(M.1.2 1) (20 + p1).toNatClampNeg, (msS M 0 (if (sX8_hasSheet (M.1.2 1) p1) = true then (if (sX8_in p2.toInt64 (0 : Int64) (7 : Int64)) = true then (0 : Int32) else (2 : Int32)) else (1 : Int32))), rfl, pair_eq hv, pw ht hP⟩, hS.F ht⟩) hS.2.2 dX8_sheet_103 (hlocks := hlocks)
        · have hv := (if_neg c42_1).symm.trans hv
          by_cases c42_2 : p2 = 2
          · have hv := (if_pos c42_2).symm.trans hv
            refine lv_tableIn (off := 62) (tgt := 104) hx hb dX8_sheet_42 (by rw [c42_2]; decide) (by rw [c42_2]; decide) (by rw [c42_2]; rfl) (by decide) ?_
            refine lv_aload_n hx hb dX8_sheet_104 rfl (lv_at hl 0 rfl) ?_
            refine va_get (D := D) (ci := 8) (v := .ref (w 1)) (C := RX8) (T := TX8) (N := 14) hx hb hts iw_X8 hown hK hP 0 rfl rfl 1 (by decide) (hts _ w_fl_X8_7) (fun _ h9 => h9) rfl dX8_sheet_105 ?_
            refine lv_bipush (v := 8) hx hb dX8_sheet_108 (by decide) ?_
            refine va_iald (cA := cs 0) (n := 414) (f := (M.1.2 1)) hx hb hK hP 1 0 rfl rfl (by unfold vp_in; decide) dX8_sheet_110 ?_
            refine lv_iload_n hx hb dX8_sheet_111 rfl (lv_at hl 1 rfl) ?_
            refine ro_i (b2i (sX8_has ((M.1.2 1) (8 : Int32).toNatClampNeg) p1)) (run_c (va_runS (As := [.int ((M.1.2 1) (8 : Int32).toNatClampNeg), .int p1]) (rest := []) ⟨hx, hb, hml, hown, hts⟩ (c_X8_has l D cs ((M.1.2 1) (8 : Int32).toNatClampNeg) p1) (cwS 2 hts (good_S w_ml_X8_66 w_st_X8_has w_in_X8 w_co_X8_has) rfl rfl rfl ⟨rfl, hd_X8_has⟩ ⟨Nat.le_of_ble_eq_true rfl, Nat.le_of_ble_eq_true rfl⟩) (pe_S (p_nil D _) hE) rfl rfl hl.1 rfl (lv_room (Nat.le_of_ble_eq_true rfl)) dX8_sheet_112 ⟨Nat.zero_le _, Nat.zero_le _⟩)) ?_
            refine join_i (J := 123) (ls := ls) (rest := []) (b2i (if (sX8_has ((M.1.2 1) (8 : Int32).toNatClampNeg) p1) = true then true else false)) ?_ (fun hJ => ?_)
            · exact W.iret (v := b2i (if (sX8_has ((M.1.2 1) (8 : Int32).toNatClampNeg) p1) = true then true else false)) hx hb hr (fun t ht hW => ⟨⟨b2i (if (sX8_has ((M.1.2 1) (8 : Int32).toNatClampNeg) p1) = true then true else false), (msS M 0 (if (sX8_hasSheet (M.1.2 1) p1) = true then (if (sX8_in p2.toInt64 (0 : Int64) (7 : Int64)) = true then (0 : Int32) else (2 : Int32)) else (1 : Int32))), rfl, pair_eq hv, pw ht hP⟩, hS.F ht⟩) hS.2.2 dX8_sheet_123 (hlocks := hlocks)
            · refine lv_if_eq (tgt := 122) hx hb dX8_sheet_115 (by decide) (fun c115 => ?_) (fun c115 => ?_)
              · have c115 := b2i_f c115
                refine lv_iconst (v := 0) hx hb dX8_sheet_122 (by decide) ?_
                exact hJ _ (congrArg b2i ((if_neg c115).trans rfl))
              · have c115 := b2i_t c115
                refine lv_iconst (v := 1) hx hb dX8_sheet_118 (by decide) ?_
                refine lv_goto (tgt := 123) hx hb dX8_sheet_119 (by decide) ?_
                exact hJ _ (congrArg b2i ((if_pos c115).trans rfl))
          · have hv := (if_neg c42_2).symm.trans hv
            by_cases c42_3 : p2 = 3
            · have hv := (if_pos c42_3).symm.trans hv
              refine lv_tableIn (off := 82) (tgt := 124) hx hb dX8_sheet_42 (by rw [c42_3]; decide) (by rw [c42_3]; decide) (by rw [c42_3]; rfl) (by decide) ?_
              refine lv_aload_n hx hb dX8_sheet_124 rfl (lv_at hl 0 rfl) ?_
              refine va_get (D := D) (ci := 8) (v := .ref (w 1)) (C := RX8) (T := TX8) (N := 14) hx hb hts iw_X8 hown hK hP 0 rfl rfl 1 (by decide) (hts _ w_fl_X8_7) (fun _ h9 => h9) rfl dX8_sheet_125 ?_
              refine lv_iload_n hx hb dX8_sheet_128 rfl (lv_at hl 1 rfl) ?_
              refine ro_i (sX8_below (M.1.2 1) p1) (run_c (va_runS (As := [.ref (w 1), .int p1]) (rest := []) ⟨hx, hb, hml, hown, hts⟩ (c_X8_below l D cs (w 1) (M.1.2 1) p1 hv0) (cwS 2 hts (good_S w_ml_X8_220 w_st_X8_below w_in_X8 w_co_X8_below) rfl rfl rfl ⟨rfl, hd_X8_below⟩ ⟨Nat.le_of_ble_eq_true rfl, Nat.le_of_ble_eq_true rfl⟩) (pe_S (hP.sub (ws' := rowW cs (w 1) (M.1.2 1)) [1] rfl) hE) rfl rfl hl.1 rfl (lv_room (Nat.le_of_ble_eq_true rfl)) dX8_sheet_129 ⟨Nat.zero_le _, Nat.zero_le _⟩)) ?_
              exact W.iret (v := sX8_below (M.1.2 1) p1) hx hb hr (fun t ht hW => ⟨⟨sX8_below (M.1.2 1) p1, (msS M 0 (if (sX8_hasSheet (M.1.2 1) p1) = true then (if (sX8_in p2.toInt64 (0 : Int64) (7 : Int64)) = true then (0 : Int32) else (2 : Int32)) else (1 : Int32))), rfl, pair_eq hv, pw ht hP⟩, hS.F ht⟩) hS.2.2 dX8_sheet_132 (hlocks := hlocks)
            · have hv := (if_neg c42_3).symm.trans hv
              by_cases c42_4 : p2 = 4
              · have hv := (if_pos c42_4).symm.trans hv
                refine lv_tableIn (off := 91) (tgt := 133) hx hb dX8_sheet_42 (by rw [c42_4]; decide) (by rw [c42_4]; decide) (by rw [c42_4]; rfl) (by decide) ?_
                refine lv_aload_n hx hb dX8_sheet_133 rfl (lv_at hl 0 rfl) ?_
                refine va_get (D := D) (ci := 8) (v := .ref (w 1)) (C := RX8) (T := TX8) (N := 14) hx hb hts iw_X8 hown hK hP 0 rfl rfl 1 (by decide) (hts _ w_fl_X8_7) (fun _ h9 => h9) rfl dX8_sheet_134 ?_
                refine lv_iload_n hx hb dX8_sheet_137 rfl (lv_at hl 1 rfl) ?_
                refine ro_i (sX8_above (M.1.2 1) p1) (run_c (va_runS (As := [.ref (w 1), .int p1]) (rest := []) ⟨hx, hb, hml, hown, hts⟩ (c_X8_above l D cs (w 1) (M.1.2 1) p1 hv0 f2) (cwS 2 hts (good_S w_ml_X8_62 w_st_X8_above w_in_X8 w_co_X8_above) rfl rfl rfl ⟨rfl, hd_X8_above⟩ ⟨Nat.le_of_ble_eq_true rfl, Nat.le_of_ble_eq_true rfl⟩) (pe_S (hP.sub (ws' := rowW cs (w 1) (M.1.2 1)) [1] rfl) hE) rfl rfl hl.1 rfl (lv_room (Nat.le_of_ble_eq_true rfl)) dX8_sheet_138 ⟨Nat.zero_le _, Nat.zero_le _⟩)) ?_
                exact W.iret (v := sX8_above (M.1.2 1) p1) hx hb hr (fun t ht hW => ⟨⟨sX8_above (M.1.2 1) p1, (msS M 0 (if (sX8_hasSheet (M.1.2 1) p1) = true then (if (sX8_in p2.toInt64 (0 : Int64) (7 : Int64)) = true then (0 : Int32) else (2 : Int32)) else (1 : Int32))), rfl, pair_eq hv, pw ht hP⟩, hS.F ht⟩) hS.2.2 dX8_sheet_141 (hlocks := hlocks)
              · have hv := (if_neg c42_4).symm.trans hv
                by_cases c42_5 : p2 = 5
                · have hv := (if_pos c42_5).symm.trans hv
                  refine lv_tableIn (off := 100) (tgt := 142) hx hb dX8_sheet_42 (by rw [c42_5]; decide) (by rw [c42_5]; decide) (by rw [c42_5]; rfl) (by decide) ?_
                  refine lv_aload_n hx hb dX8_sheet_142 rfl (lv_at hl 0 rfl) ?_
                  refine va_get (D := D) (ci := 8) (v := .ref (w 1)) (C := RX8) (T := TX8) (N := 14) hx hb hts iw_X8 hown hK hP 0 rfl rfl 1 (by decide) (hts _ w_fl_X8_7) (fun _ h9 => h9) rfl dX8_sheet_143 ?_
                  refine lv_iload_n hx hb dX8_sheet_146 rfl (lv_at hl 1 rfl) ?_
                  refine ro_i (sX8_outOf (M.1.2 1) p1) (run_c (va_runS (As := [.ref (w 1), .int p1]) (rest := []) ⟨hx, hb, hml, hown, hts⟩ (c_X8_outOf l D cs (w 1) (M.1.2 1) p1 hv0.2.1.2) (cwS 2 hts (good_S w_ml_X8_223 w_st_X8_outOf w_in_X8 w_co_X8_outOf) rfl rfl rfl ⟨rfl, hd_X8_outOf⟩ ⟨Nat.le_of_ble_eq_true rfl, Nat.le_of_ble_eq_true rfl⟩) (pe_S (hP.sub (ws' := rowW cs (w 1) (M.1.2 1)) [1] rfl) hE) rfl rfl hl.1 rfl (lv_room (Nat.le_of_ble_eq_true rfl)) dX8_sheet_147 ⟨Nat.zero_le _, Nat.zero_le _⟩)) ?_
                  exact W.iret (v := sX8_outOf (M.1.2 1) p1) hx hb hr (fun t ht hW => ⟨⟨sX8_outOf (M.1.2 1) p1, (msS M 0 (if (sX8_hasSheet (M.1.2 1) p1) = true then (if (sX8_in p2.toInt64 (0 : Int64) (7 : Int64)) = true then (0 : Int32) else (2 : Int32)) else (1 : Int32))), rfl, pair_eq hv, pw ht hP⟩, hS.F ht⟩) hS.2.2 dX8_sheet_150 (hlocks := hlocks)
                · have hv := (if_neg c42_5).symm.trans hv
                  by_cases c42_6 : p2 = 6
                  · have hv := (if_pos c42_6).symm.trans hv
                    refine lv_tableIn (off := 109) (tgt := 151) hx hb dX8_sheet_42 (by rw [c42_6]; decide) (by rw [c42_6]; decide) (by rw [c42_6]; rfl) (by decide) ?_
                    refine lv_aload_n hx hb dX8_sheet_151 rfl (lv_at hl 0 rfl) ?_
                    refine va_get (D := D) (ci := 8) (v := .ref (w 1)) (C := RX8) (T := TX8) (N := 14) hx hb hts iw_X8 hown hK hP 0 rfl rfl 1 (by decide) (hts _ w_fl_X8_7) (fun _ h9 => h9) rfl dX8_sheet_152 ?_
                    refine lv_iload_n hx hb dX8_sheet_155 rfl (lv_at hl 1 rfl) ?_
                    refine ro_i (sX8_deep (M.1.2 1) p1) (run_c (va_runS (As := [.ref (w 1), .int p1]) (rest := []) ⟨hx, hb, hml, hown, hts⟩ (c_X8_deep l D cs (w 1) (M.1.2 1) p1 hv0 f2) (cwS 2 hts (good_S w_ml_X8_226 w_st_X8_deep w_in_X8 w_co_X8_deep) rfl rfl rfl ⟨rfl, hd_X8_deep⟩ ⟨Nat.le_of_ble_eq_true rfl, Nat.le_of_ble_eq_true rfl⟩) (pe_S (hP.sub (ws' := rowW cs (w 1) (M.1.2 1)) [1] rfl) hE) rfl rfl hl.1 rfl (lv_room (Nat.le_of_ble_eq_true rfl)) dX8_sheet_156 ⟨Nat.zero_le _, Nat.zero_le _⟩)) ?_
                    exact W.iret (v := sX8_deep (M.1.2 1) p1) hx hb hr (fun t ht hW => ⟨⟨sX8_deep (M.1.2 1) p1, (msS M 0 (if (sX8_hasSheet (M.1.2 1) p1) = true then (if (sX8_in p2.toInt64 (0 : Int64) (7 : Int64)) = true then (0 : Int32) else (2 : Int32)) else (1 : Int32))), rfl, pair_eq hv, pw ht hP⟩, hS.F ht⟩) hS.2.2 dX8_sheet_159 (hlocks := hlocks)
                  · have hv := (if_neg c42_6).symm.trans hv
                    have e0 : p2.toInt ≠ 0 := sw_ne c42_0
                    have e1 : p2.toInt ≠ 1 := sw_ne c42_1
                    have e2 : p2.toInt ≠ 2 := sw_ne c42_2
                    have e3 : p2.toInt ≠ 3 := sw_ne c42_3
                    have e4 : p2.toInt ≠ 4 := sw_ne c42_4
                    have e5 : p2.toInt ≠ 5 := sw_ne c42_5
                    have e6 : p2.toInt ≠ 6 := sw_ne c42_6
                    refine lv_tableOut (tgt := 160) hx hb dX8_sheet_42 (by omega) (by decide) ?_
                    refine lv_aload_n hx hb dX8_sheet_160 rfl (lv_at hl 0 rfl) ?_
                    refine va_get (D := D) (ci := 8) (v := .ref (w 1)) (C := RX8) (T := TX8) (N := 14) hx hb hts iw_X8 hown hK hP 0 rfl rfl 1 (by decide) (hts _ w_fl_X8_7) (fun _ h9 => h9) rfl dX8_sheet_161 ?_
                    refine lv_iload_n hx hb dX8_sheet_164 rfl (lv_at hl 1 rfl) ?_
                    refine ro_i (sX8_wrongOf (M.1.2 1) p1) (run_c (va_runS (As := [.ref (w 1), .int p1]) (rest := []) ⟨hx, hb, hml, hown, hts⟩ (c_X8_wrongOf l D cs (w 1) (M.1.2 1) p1 hv0) (cwS 2 hts (good_S w_ml_X8_229 w_st_X8_wrongOf w_in_X8 w_co_X8_wrongOf) rfl rfl rfl ⟨rfl, hd_X8_wrongOf⟩ ⟨Nat.le_of_ble_eq_true rfl, Nat.le_of_ble_eq_true rfl⟩) (pe_S (hP.sub (ws' := rowW cs (w 1) (M.1.2 1)) [1] rfl) hE) rfl rfl hl.1 rfl (lv_room (Nat.le_of_ble_eq_true rfl)) dX8_sheet_165 ⟨Nat.zero_le _, Nat.zero_le _⟩)) ?_
                    exact W.iret (v := sX8_wrongOf (M.1.2 1) p1) hx hb hr (fun t ht hW => ⟨⟨sX8_wrongOf (M.1.2 1) p1, (msS M 0 (if (sX8_hasSheet (M.1.2 1) p1) = true then (if (sX8_in p2.toInt64 (0 : Int64) (7 : Int64)) = true then (0 : Int32) else (2 : Int32)) else (1 : Int32))), rfl, pair_eq hv, pw ht hP⟩, hS.F ht⟩) hS.2.2 dX8_sheet_168 (hlocks := hlocks)
    · have c36 := b2i_t c36
      have hv := (if_pos c36).symm.trans hv
      refine lv_iconst (v := 0) hx hb dX8_sheet_39 (by decide) ?_
      exact W.iret (v := 0) hx hb hr (fun t ht hW => ⟨⟨0, (msS M 0 (if (sX8_hasSheet (M.1.2 1) p1) = true then (if (sX8_in p2.toInt64 (0 : Int64) (7 : Int64)) = true then (0 : Int32) else (2 : Int32)) else (1 : Int32))), rfl, pair_eq hv, pw ht hP⟩, hS.F ht⟩) hS.2.2 dX8_sheet_40 (hlocks := hlocks)
  · refine lv_if_ne (tgt := 16) hx hb dX8_sheet_9 (by decide) (fun c9 => ?_) (fun c9 => ?_)
    · have c9 := b2i_t c9
      refine lv_iload_n hx hb dX8_sheet_16 rfl (lv_at hl 2 rfl) ?_
      refine lv_i2l hx hb dX8_sheet_17 rfl ?_
      refine lv_lconst (v := 0) hx hb dX8_sheet_18 (by decide) ?_
      refine lv_ldc2 (v := 7) hx hb hown (hts _ w_cn_X8_218) dX8_sheet_19 ?_
      refine ro_i (b2i (sX8_in p2.toInt64 (0 : Int64) (7 : Int64))) (run_c (va_runS (As := [.long p2.toInt64, .long (0 : Int64), .long (7 : Int64)]) (rest := [.ref (w 0)]) ⟨hx, hb, hml, hown, hts⟩ (c_X8_in l D cs p2.toInt64 (0 : Int64) (7 : Int64)) (cwS 3 hts (good_S w_ml_X8_42 w_st_X8_in w_in_X8 w_co_X8_in) rfl rfl rfl ⟨rfl, hd_X8_in⟩ ⟨Nat.le_of_ble_eq_true rfl, Nat.le_of_ble_eq_true rfl⟩) (pe_S (p_nil D _) hE) rfl rfl hl.1 rfl (lv_room (Nat.le_of_ble_eq_true rfl)) dX8_sheet_22 ⟨Nat.zero_le _, Nat.zero_le _⟩)) ?_
      refine lv_if_ne (tgt := 32) hx hb dX8_sheet_25 (by decide) (fun c25 => ?_) (fun c25 => ?_)
      · have c25 := b2i_t c25
        refine lv_iconst (v := 0) hx hb dX8_sheet_32 (by decide) ?_
        exact hJ _ ((if_pos c9).trans ((if_pos c25).trans rfl))
      · have c25 := b2i_f c25
        refine lv_iconst (v := 2) hx hb dX8_sheet_28 (by decide) ?_
        refine lv_goto (tgt := 33) hx hb dX8_sheet_29 (by decide) ?_
        exact hJ _ ((if_pos c9).trans ((if_neg c25).trans rfl))
    · have c9 := b2i_f c9
      refine lv_iconst (v := 1) hx hb dX8_sheet_12 (by decide) ?_
      refine lv_goto (tgt := 33) hx hb dX8_sheet_13 (by decide) ?_
      exact hJ _ ((if_neg c9).trans rfl)
theorem hd_X8_field : yX8_field.cls ≠ "java/lang/invoke/MethodHandle" ∧ yX8_field.cls ≠ "java/lang/invoke/VarHandle" ∧ (parseMethodDescriptor yX8_field.desc).map (fun d => d.parameters.length) = some 2 := by decide +kernel
def sX8_field (M : MS) (p1 : Int32) (p2 : Int32) : Int32 × MS := (if (refB (b2i (if (sX8_hasSheet (M.1.2 1) p1) = true then (if (sX8_isField p2) = true then false else true) else true))) = true then (0, (msS M 0 (b2i (if (sX8_hasSheet (M.1.2 1) p1) = true then (if (sX8_isField p2) = true then false else true) else true)))) else ((M.1.2 1) ((30 + (12 * p1)) + p2).toNatClampNeg, (msS M 0 (b2i (if (sX8_hasSheet (M.1.2 1) p1) = true then (if (sX8_isField p2) = true then false else true) else true)))))
set_option maxHeartbeats 4000000 in
set_option maxRecDepth 100000 in
theorem c_X8_field (l : Launch) (D : va_G) (cs : Nat → ClassId) (w : Nat → Nat) (M : MS) (p1 : Int32) (p2 : Int32) (hd : mD w) (hv0 : MV (M.1.2 1)) : Met l yX8_field (wc yX8_field cX8_field 3 (some .int)) ({ frames := 2, cells := 0, slots := 0, locals := 46 } : Room) (va_Pc [.ref (w 0), .int p1, .int p2] (PE D cs (mW cs w M))) (va_Qi (fun (r9 : Int32) (u : MS) => r9 = (sX8_field M p1 p2).1 ∧ u = (sX8_field M p1 p2).2) (fun u t => va_P D vwC (mW cs w u) t.heap) (mA w)) 0 0 (mA w) := by
  obtain ⟨v, hv⟩ : ∃ v, sX8_field M p1 p2 = v := ⟨_, rfl⟩
  rw [hv]
  refine met_o (lv := [(0, .ref (w 0)), (1, .int p1), (2, .int p2)]) (by decide) (Nat.le_of_ble_eq_true rfl) rfl ?_
  intro p e s m args below meth c ls hx hb hr hml hts hown hlocks hin hP hE hl
  have hown : s.vm.findClass RX8 = some m.cls := hown
  have hK := hE.1
  have hP : va_P D vwC (mW cs w M) s.heap := hP
  have hS : va_S (mA w) s.heap s.heap [] := va_S.rf
  unfold sX8_field at hv
  refine lv_aload_n hx hb dX8_field_0 rfl (lv_at hl 0 rfl) ?_
  refine lv_aload_n hx hb dX8_field_1 rfl (lv_at hl 0 rfl) ?_
  refine va_get (D := D) (ci := 8) (v := .ref (w 1)) (C := RX8) (T := TX8) (N := 14) hx hb hts iw_X8 hown hK hP 0 rfl rfl 1 (by decide) (hts _ w_fl_X8_7) (fun _ h9 => h9) rfl dX8_field_2 ?_
  refine lv_iload_n hx hb dX8_field_5 rfl (lv_at hl 1 rfl) ?_
  refine ro_i (b2i (sX8_hasSheet (M.1.2 1) p1)) (run_c (va_runS (As := [.ref (w 1), .int p1]) (rest := [.ref (w 0)]) ⟨hx, hb, hml, hown, hts⟩ (c_X8_hasSheet l D cs (w 1) (M.1.2 1) p1) (cwS 2 hts (good_S w_ml_X8_139 w_st_X8_hasSheet w_in_X8 w_co_X8_hasSheet) rfl rfl rfl ⟨rfl, hd_X8_hasSheet⟩ ⟨Nat.le_of_ble_eq_true rfl, Nat.le_of_ble_eq_true rfl⟩) (pe_S (hP.sub (ws' := rowW cs (w 1) (M.1.2 1)) [1] rfl) hE) rfl rfl hl.1 rfl (lv_room (Nat.le_of_ble_eq_true rfl)) dX8_field_6 ⟨Nat.zero_le _, Nat.zero_le _⟩)) ?_
  refine join_i (J := 24) (ls := ls) (rest := [.ref (w 0)]) (b2i (if (sX8_hasSheet (M.1.2 1) p1) = true then (if (sX8_isField p2) = true then false else true) else true)) ?_ (fun hJ => ?_)
  · refine w_b (refB (b2i (if (sX8_hasSheet (M.1.2 1) p1) = true then (if (sX8_isField p2) = true then false else true) else true)), (msS M 0 (b2i (if (sX8_hasSheet (M.1.2 1) p1) = true then (if (sX8_isField p2) = true then false else true) else true)))) (va_runV (As := [.int (b2i (if (sX8_hasSheet (M.1.2 1) p1) = true then (if (sX8_isField p2) = true then false else true) else true))]) (rest := []) ⟨hx, hb, hml, hown, hts⟩ (c_X8_refused l D cs w M (b2i (if (sX8_hasSheet (M.1.2 1) p1) = true then (if (sX8_isField p2) = true then false else true) else true)) hd) (cwV 1 hts (good_V w_ml_X8_105 w_im_X8_refused w_se_X8_refused w_in_X8 w_co_X8_refused) rfl rfl rfl ⟨rfl, hd_X8_refused⟩ ⟨Nat.le_of_ble_eq_true rfl, Nat.le_of_ble_eq_true rfl⟩) (pe_W (C := RX8) (T := TX8) (N := 14) (ci := 8) (q0 := 0) hP hE rfl rfl) rfl rfl hl.1 rfl (lv_room (Nat.le_of_ble_eq_true rfl)) dX8_field_24 ⟨Nat.zero_le _, Nat.zero_le _⟩) hS (fun _ _ h => h) (fun _ h => h) (fun t locs hB hz hk hS => ?_)
    have hP : va_P D vwC (mW cs w (msS M 0 (b2i (if (sX8_hasSheet (M.1.2 1) p1) = true then (if (sX8_isField p2) = true then false else true) else true)))) t.heap := hB
    refine lv_if_eq (tgt := 32) hx hb dX8_field_27 (by decide) (fun c27 => ?_) (fun c27 => ?_)
    · have c27 := b2i_f c27
      have hv := (if_neg c27).symm.trans hv
      have f1 := iftb (b2i_f (rf0 c27))
      have f2 := iftb f1.2
      refine lv_aload_n hx hb dX8_field_32 rfl (lv_at hl 0 rfl) ?_
      refine va_get (D := D) (ci := 8) (v := .ref (w 1)) (C := RX8) (T := TX8) (N := 14) hx hb hts iw_X8 hown hK hP 0 rfl rfl 1 (by decide) (hts _ w_fl_X8_7) (fun _ h9 => h9) rfl dX8_field_33 ?_
      refine lv_bipush (v := 30) hx hb dX8_field_36 (by decide) ?_
      refine lv_bipush (v := 12) hx hb dX8_field_38 (by decide) ?_
      refine lv_iload_n hx hb dX8_field_40 rfl (lv_at hl 1 rfl) ?_
      refine lv_imul hx hb dX8_field_41 ?_
      refine lv_iadd hx hb dX8_field_42 ?_
      refine lv_iload_n hx hb dX8_field_43 rfl (lv_at hl 2 rfl) ?_
      refine lv_iadd hx hb dX8_field_44 ?_
      refine va_iald (cA := cs 0) (n := 414) (f := (M.1.2 1)) hx hb hK hP 1 0 rfl rfl (dr2 ((hasS_t hv0.1.1 f1.1).v hv0) (isF_t f2.1)) dX8_field_45 ?_
      exact W.iret (v := (M.1.2 1) ((30 + (12 * p1)) + p2).toNatClampNeg) hx hb hr (fun t ht hW => ⟨⟨(M.1.2 1) ((30 + (12 * p1)) + p2).toNatClampNeg, (msS M 0 (b2i (if (sX8_hasSheet (M.1.2 1) p1) = true then (if (sX8_isField p2) = true then false else true) else true))), rfl, pair_eq hv, pw ht hP⟩, hS.F ht⟩) hS.2.2 dX8_field_46 (hlocks := hlocks)
    · have c27 := b2i_t c27
      have hv := (if_pos c27).symm.trans hv
      refine lv_iconst (v := 0) hx hb dX8_field_30 (by decide) ?_
      exact W.iret (v := 0) hx hb hr (fun t ht hW => ⟨⟨0, (msS M 0 (b2i (if (sX8_hasSheet (M.1.2 1) p1) = true then (if (sX8_isField p2) = true then false else true) else true))), rfl, pair_eq hv, pw ht hP⟩, hS.F ht⟩) hS.2.2 dX8_field_31 (hlocks := hlocks)
  · refine lv_if_eq (tgt := 23) hx hb dX8_field_9 (by decide) (fun c9 => ?_) (fun c9 => ?_)
    · have c9 := b2i_f c9
      refine lv_iconst (v := 1) hx hb dX8_field_23 (by decide) ?_
      exact hJ _ (congrArg b2i ((if_neg c9).trans rfl))
    · have c9 := b2i_t c9
      refine lv_iload_n hx hb dX8_field_12 rfl (lv_at hl 2 rfl) ?_
      refine ro_i (b2i (sX8_isField p2)) (run_c (va_runS (As := [.int p2]) (rest := [.ref (w 0)]) ⟨hx, hb, hml, hown, hts⟩ (c_X8_isField l D cs p2) (cwS 1 hts (good_S w_ml_X8_232 w_st_X8_isField w_in_X8 w_co_X8_isField) rfl rfl rfl ⟨rfl, hd_X8_isField⟩ ⟨Nat.le_of_ble_eq_true rfl, Nat.le_of_ble_eq_true rfl⟩) (pe_S (p_nil D _) hE) rfl rfl hl.1 rfl (lv_room (Nat.le_of_ble_eq_true rfl)) dX8_field_13 ⟨Nat.zero_le _, Nat.zero_le _⟩)) ?_
      refine lv_if_eq (tgt := 23) hx hb dX8_field_16 (by decide) (fun c16 => ?_) (fun c16 => ?_)
      · have c16 := b2i_f c16
        refine lv_iconst (v := 1) hx hb dX8_field_23 (by decide) ?_
        exact hJ _ (congrArg b2i ((if_pos c9).trans ((if_neg c16).trans rfl)))
      · have c16 := b2i_t c16
        refine lv_iconst (v := 0) hx hb dX8_field_19 (by decide) ?_
        refine lv_goto (tgt := 24) hx hb dX8_field_20 (by decide) ?_
        exact hJ _ (congrArg b2i ((if_pos c9).trans ((if_pos c16).trans rfl)))
theorem hd_X8_drawnOf : yX8_drawnOf.cls ≠ "java/lang/invoke/MethodHandle" ∧ yX8_drawnOf.cls ≠ "java/lang/invoke/VarHandle" ∧ (parseMethodDescriptor yX8_drawnOf.desc).map (fun d => d.parameters.length) = some 2 := by decide +kernel
def LX8_drawnOf_5 (M : MS) (p1 : Int32) (p2 : Int32) : Nat → Int32 → Int32 → Int32
  | 0 => fun _ _ => 0
  | n + 1 => fun x3 x4 => (if 12 ≤ x4 then x3 else (LX8_drawnOf_5 M p1 p2 n (x3 ||| (if ((M.1.2 1) ((30 + (12 * p1)) + x4).toNatClampNeg) = p2 then 1 <<< (x4 &&& 31) else (0 : Int32))) (x4 + 1)))
theorem LX8_drawnOf_5_eq (M : MS) (p1 : Int32) (p2 : Int32) (n : Nat) (x3 : Int32) (x4 : Int32) : LX8_drawnOf_5 M p1 p2 (n + 1) x3 x4 = (if 12 ≤ x4 then x3 else (LX8_drawnOf_5 M p1 p2 n (x3 ||| (if ((M.1.2 1) ((30 + (12 * p1)) + x4).toNatClampNeg) = p2 then 1 <<< (x4 &&& 31) else (0 : Int32))) (x4 + 1))) := rfl
def sX8_drawnOf (M : MS) (p1 : Int32) (p2 : Int32) : Int32 := (LX8_drawnOf_5 M p1 p2 (upM 12 0 + 1) 0 0)
set_option maxHeartbeats 4000000 in
set_option maxRecDepth 100000 in
theorem c_X8_drawnOf (l : Launch) (D : va_G) (cs : Nat → ClassId) (w : Nat → Nat) (M : MS) (p1 : Int32) (p2 : Int32) (h1 : vp_in p1 10) : Met l yX8_drawnOf (wc yX8_drawnOf cX8_drawnOf 5 (some .int)) ({ frames := 0, cells := 0, slots := 0, locals := 0 } : Room) (va_Pc [.ref (w 0), .int p1, .int p2] (PE D cs (mW cs w M))) (vp_Si (fun r9 => r9 = (sX8_drawnOf M p1 p2))) 0 0 (fun _ => False) := by
  obtain ⟨v, hv⟩ : ∃ v, sX8_drawnOf M p1 p2 = v := ⟨_, rfl⟩
  rw [hv]
  refine met_o (lv := [(0, .ref (w 0)), (1, .int p1), (2, .int p2)]) (by decide) (Nat.le_of_ble_eq_true rfl) rfl ?_
  intro p e s m args below meth c ls hx hb hr hml hts hown hlocks hin hP hE hl
  have hown : s.vm.findClass RX8 = some m.cls := hown
  have hK := hE.1
  have hP : va_P D vwC (mW cs w M) s.heap := hP
  unfold sX8_drawnOf at hv
  refine lv_iconst (v := 0) hx hb dX8_drawnOf_0 (by decide) ?_
  refine lv_istore_n (lv' := [(3, .int 0), (0, .ref (w 0)), (1, .int p1), (2, .int p2)]) hx hb dX8_drawnOf_1 rfl hl (by decide) rfl (fun ls hl => ?_)
  refine lv_iconst (v := 0) hx hb dX8_drawnOf_2 (by decide) ?_
  refine lv_istore (lv' := [(4, .int 0), (3, .int 0), (0, .ref (w 0)), (1, .int p1), (2, .int p2)]) hx hb dX8_drawnOf_3 hl (by decide) rfl (fun ls hl => ?_)
  have LOOP : ∀ (n : Nat) (x3 : Int32) (x4 : Int32), upM 12 x4 < n → (¬ x4 < 0) → LX8_drawnOf_5 M p1 p2 n x3 x4 = v → ∀ ls : Array Slot, lv_has ls 5 [(0, .ref (w 0)), (1, .int p1), (2, .int p2), (3, .int x3), (4, .int x4)] → W p l e ({ frames := 0, cells := 0, slots := 0, locals := 0 } : Room) s m args below meth c s.heap [] 0 0 (MQ below (vp_Si (fun r9 => r9 = v)) args s 0 0 (fun _ => False)) (F0 m 5 ls []) := by
    clear hv
    intro n
    induction n with
    | zero => intro x3 x4 hm; exact absurd hm (Nat.not_lt_zero _)
    | succ n ih =>
      intro x3 x4 hm i0 hv ls hl
      have hv := (LX8_drawnOf_5_eq M p1 p2 n x3 x4).symm.trans hv
      refine lv_iload hx hb dX8_drawnOf_5 (lv_at hl 4 rfl) ?_
      refine lv_bipush (v := 12) hx hb dX8_drawnOf_7 (by decide) ?_
      refine lv_icmp_ge (tgt := 48) hx hb dX8_drawnOf_9 (by decide) (fun c9 => ?_) (fun c9 => ?_)
      · have hv := (if_pos c9).symm.trans hv
        refine lv_iload_n hx hb dX8_drawnOf_48 rfl (lv_at hl 3 rfl) ?_
        exact W.iret (v := x3) hx hb hr (fun t ht hW => ⟨x3, rfl, hv, ht⟩) (fun _ h => nomatch h) dX8_drawnOf_49 (hlocks := hlocks)
      · have hv := (if_neg c9).symm.trans hv
        refine lv_iload_n hx hb dX8_drawnOf_12 rfl (lv_at hl 3 rfl) ?_
        refine lv_aload_n hx hb dX8_drawnOf_13 rfl (lv_at hl 0 rfl) ?_
        refine va_get (D := D) (ci := 8) (v := .ref (w 1)) (C := RX8) (T := TX8) (N := 14) hx hb hts iw_X8 hown hK hP 0 rfl rfl 1 (by decide) (hts _ w_fl_X8_7) (fun _ h9 => h9) rfl dX8_drawnOf_14 ?_
        refine lv_bipush (v := 30) hx hb dX8_drawnOf_17 (by decide) ?_
        refine lv_bipush (v := 12) hx hb dX8_drawnOf_19 (by decide) ?_
        refine lv_iload_n hx hb dX8_drawnOf_21 rfl (lv_at hl 1 rfl) ?_
        refine lv_imul hx hb dX8_drawnOf_22 ?_
        refine lv_iadd hx hb dX8_drawnOf_23 ?_
        refine lv_iload hx hb dX8_drawnOf_24 (lv_at hl 4 rfl) ?_
        refine lv_iadd hx hb dX8_drawnOf_26 ?_
        refine va_iald (cA := cs 0) (n := 414) (f := (M.1.2 1)) hx hb hK hP 1 0 rfl rfl (dr2 h1 (vp_a rfl i0 c9)) dX8_drawnOf_27 ?_
        refine lv_iload_n hx hb dX8_drawnOf_28 rfl (lv_at hl 2 rfl) ?_
        refine join_i (J := 40) (ls := ls) (rest := [.int x3]) ((if ((M.1.2 1) ((30 + (12 * p1)) + x4).toNatClampNeg) = p2 then 1 <<< (x4 &&& 31) else (0 : Int32))) ?_ (fun hJ => ?_)
        · refine lv_ior hx hb dX8_drawnOf_40 ?_
          refine lv_istore_n (lv' := [(3, .int (x3 ||| (if ((M.1.2 1) ((30 + (12 * p1)) + x4).toNatClampNeg) = p2 then 1 <<< (x4 &&& 31) else (0 : Int32)))), (0, .ref (w 0)), (1, .int p1), (2, .int p2), (4, .int x4)]) hx hb dX8_drawnOf_41 rfl hl (by decide) rfl (fun ls hl => ?_)
          refine lv_iinc (v := x4 + 1) (lv' := [(4, .int (x4 + 1)), (3, .int (x3 ||| (if ((M.1.2 1) ((30 + (12 * p1)) + x4).toNatClampNeg) = p2 then 1 <<< (x4 &&& 31) else (0 : Int32)))), (0, .ref (w 0)), (1, .int p1), (2, .int p2)]) hx hb dX8_drawnOf_42 hl (k := 4) rfl rfl (by decide) rfl (fun ls hl => ?_)
          refine lv_goto (tgt := 5) hx hb dX8_drawnOf_45 (by decide) ?_
          exact ih (x3 ||| (if ((M.1.2 1) ((30 + (12 * p1)) + x4).toNatClampNeg) = p2 then 1 <<< (x4 &&& 31) else (0 : Int32))) (x4 + 1) (upM_s c9 hm) (nn_inc i0 c9) hv ls (lv_sub hl [2, 3, 4, 1, 0] rfl)
        · refine lv_icmp_ne (tgt := 39) hx hb dX8_drawnOf_29 (by decide) (fun c29 => ?_) (fun c29 => ?_)
          · refine lv_iconst (v := 0) hx hb dX8_drawnOf_39 (by decide) ?_
            exact hJ _ ((if_neg c29).trans rfl)
          · refine lv_iconst (v := 1) hx hb dX8_drawnOf_32 (by decide) ?_
            refine lv_iload hx hb dX8_drawnOf_33 (lv_at hl 4 rfl) ?_
            refine lv_ishl hx hb dX8_drawnOf_35 ?_
            refine lv_goto (tgt := 40) hx hb dX8_drawnOf_36 (by decide) ?_
            exact hJ _ ((if_pos c29).trans rfl)
  exact LOOP _ 0 0 (Nat.lt_succ_self _) (by decide) hv ls (lv_sub hl [2, 3, 4, 1, 0] rfl)
theorem hd_X8_drawnIn : yX8_drawnIn.cls ≠ "java/lang/invoke/MethodHandle" ∧ yX8_drawnIn.cls ≠ "java/lang/invoke/VarHandle" ∧ (parseMethodDescriptor yX8_drawnIn.desc).map (fun d => d.parameters.length) = some 2 := by decide +kernel
def sX8_drawnIn (M : MS) (p1 : Int32) (p2 : Int32) : Int32 × MS := (if (refB (if (sX8_hasSheet (M.1.2 1) p1) = true then (if (sX8_in p2.toInt64 (0 : Int64) (((M.1.2 1) (20 + p1).toNatClampNeg).toInt64)) = true then (0 : Int32) else (2 : Int32)) else (1 : Int32))) = true then (0, (msS M 0 (if (sX8_hasSheet (M.1.2 1) p1) = true then (if (sX8_in p2.toInt64 (0 : Int64) (((M.1.2 1) (20 + p1).toNatClampNeg).toInt64)) = true then (0 : Int32) else (2 : Int32)) else (1 : Int32)))) else (sX8_drawnOf (msS M 0 (if (sX8_hasSheet (M.1.2 1) p1) = true then (if (sX8_in p2.toInt64 (0 : Int64) (((M.1.2 1) (20 + p1).toNatClampNeg).toInt64)) = true then (0 : Int32) else (2 : Int32)) else (1 : Int32))) p1 p2, (msS M 0 (if (sX8_hasSheet (M.1.2 1) p1) = true then (if (sX8_in p2.toInt64 (0 : Int64) (((M.1.2 1) (20 + p1).toNatClampNeg).toInt64)) = true then (0 : Int32) else (2 : Int32)) else (1 : Int32)))))
set_option maxHeartbeats 4000000 in
set_option maxRecDepth 100000 in
theorem c_X8_drawnIn (l : Launch) (D : va_G) (cs : Nat → ClassId) (w : Nat → Nat) (M : MS) (p1 : Int32) (p2 : Int32) (hd : mD w) (hv0 : MV (M.1.2 1)) : Met l yX8_drawnIn (wc yX8_drawnIn cX8_drawnIn 3 (some .int)) ({ frames := 2, cells := 0, slots := 0, locals := 46 } : Room) (va_Pc [.ref (w 0), .int p1, .int p2] (PE D cs (mW cs w M))) (va_Qi (fun (r9 : Int32) (u : MS) => r9 = (sX8_drawnIn M p1 p2).1 ∧ u = (sX8_drawnIn M p1 p2).2) (fun u t => va_P D vwC (mW cs w u) t.heap) (mA w)) 0 0 (mA w) := by
  obtain ⟨v, hv⟩ : ∃ v, sX8_drawnIn M p1 p2 = v := ⟨_, rfl⟩
  rw [hv]
  refine met_o (lv := [(0, .ref (w 0)), (1, .int p1), (2, .int p2)]) (by decide) (Nat.le_of_ble_eq_true rfl) rfl ?_
  intro p e s m args below meth c ls hx hb hr hml hts hown hlocks hin hP hE hl
  have hown : s.vm.findClass RX8 = some m.cls := hown
  have hK := hE.1
  have hP : va_P D vwC (mW cs w M) s.heap := hP
  have hS : va_S (mA w) s.heap s.heap [] := va_S.rf
  unfold sX8_drawnIn at hv
  refine lv_aload_n hx hb dX8_drawnIn_0 rfl (lv_at hl 0 rfl) ?_
  refine lv_aload_n hx hb dX8_drawnIn_1 rfl (lv_at hl 0 rfl) ?_
  refine va_get (D := D) (ci := 8) (v := .ref (w 1)) (C := RX8) (T := TX8) (N := 14) hx hb hts iw_X8 hown hK hP 0 rfl rfl 1 (by decide) (hts _ w_fl_X8_7) (fun _ h9 => h9) rfl dX8_drawnIn_2 ?_
  refine lv_iload_n hx hb dX8_drawnIn_5 rfl (lv_at hl 1 rfl) ?_
  refine ro_i (b2i (sX8_hasSheet (M.1.2 1) p1)) (run_c (va_runS (As := [.ref (w 1), .int p1]) (rest := [.ref (w 0)]) ⟨hx, hb, hml, hown, hts⟩ (c_X8_hasSheet l D cs (w 1) (M.1.2 1) p1) (cwS 2 hts (good_S w_ml_X8_139 w_st_X8_hasSheet w_in_X8 w_co_X8_hasSheet) rfl rfl rfl ⟨rfl, hd_X8_hasSheet⟩ ⟨Nat.le_of_ble_eq_true rfl, Nat.le_of_ble_eq_true rfl⟩) (pe_S (hP.sub (ws' := rowW cs (w 1) (M.1.2 1)) [1] rfl) hE) rfl rfl hl.1 rfl (lv_room (Nat.le_of_ble_eq_true rfl)) dX8_drawnIn_6 ⟨Nat.zero_le _, Nat.zero_le _⟩)) ?_
  refine join_i (J := 40) (ls := ls) (rest := [.ref (w 0)]) ((if (sX8_hasSheet (M.1.2 1) p1) = true then (if (sX8_in p2.toInt64 (0 : Int64) (((M.1.2 1) (20 + p1).toNatClampNeg).toInt64)) = true then (0 : Int32) else (2 : Int32)) else (1 : Int32))) ?_ (fun hJ => ?_)
  · refine w_b (refB (if (sX8_hasSheet (M.1.2 1) p1) = true then (if (sX8_in p2.toInt64 (0 : Int64) (((M.1.2 1) (20 + p1).toNatClampNeg).toInt64)) = true then (0 : Int32) else (2 : Int32)) else (1 : Int32)), (msS M 0 (if (sX8_hasSheet (M.1.2 1) p1) = true then (if (sX8_in p2.toInt64 (0 : Int64) (((M.1.2 1) (20 + p1).toNatClampNeg).toInt64)) = true then (0 : Int32) else (2 : Int32)) else (1 : Int32)))) (va_runV (As := [.int (if (sX8_hasSheet (M.1.2 1) p1) = true then (if (sX8_in p2.toInt64 (0 : Int64) (((M.1.2 1) (20 + p1).toNatClampNeg).toInt64)) = true then (0 : Int32) else (2 : Int32)) else (1 : Int32))]) (rest := []) ⟨hx, hb, hml, hown, hts⟩ (c_X8_refused l D cs w M (if (sX8_hasSheet (M.1.2 1) p1) = true then (if (sX8_in p2.toInt64 (0 : Int64) (((M.1.2 1) (20 + p1).toNatClampNeg).toInt64)) = true then (0 : Int32) else (2 : Int32)) else (1 : Int32)) hd) (cwV 1 hts (good_V w_ml_X8_105 w_im_X8_refused w_se_X8_refused w_in_X8 w_co_X8_refused) rfl rfl rfl ⟨rfl, hd_X8_refused⟩ ⟨Nat.le_of_ble_eq_true rfl, Nat.le_of_ble_eq_true rfl⟩) (pe_W (C := RX8) (T := TX8) (N := 14) (ci := 8) (q0 := 0) hP hE rfl rfl) rfl rfl hl.1 rfl (lv_room (Nat.le_of_ble_eq_true rfl)) dX8_drawnIn_40 ⟨Nat.zero_le _, Nat.zero_le _⟩) hS (fun _ _ h => h) (fun _ h => h) (fun t locs hB hz hk hS => ?_)
    have hP : va_P D vwC (mW cs w (msS M 0 (if (sX8_hasSheet (M.1.2 1) p1) = true then (if (sX8_in p2.toInt64 (0 : Int64) (((M.1.2 1) (20 + p1).toNatClampNeg).toInt64)) = true then (0 : Int32) else (2 : Int32)) else (1 : Int32)))) t.heap := hB
    refine lv_if_eq (tgt := 48) hx hb dX8_drawnIn_43 (by decide) (fun c43 => ?_) (fun c43 => ?_)
    · have c43 := b2i_f c43
      have hv := (if_neg c43).symm.trans hv
      have f1 := ift (by decide) (rf0 c43)
      have f2 := hasS_t hv0.1.1 f1.1
      have f3 := f2.v hv0
      refine lv_aload_n hx hb dX8_drawnIn_48 rfl (lv_at hl 0 rfl) ?_
      refine lv_iload_n hx hb dX8_drawnIn_49 rfl (lv_at hl 1 rfl) ?_
      refine lv_iload_n hx hb dX8_drawnIn_50 rfl (lv_at hl 2 rfl) ?_
      refine ro_i (sX8_drawnOf (msS M 0 (if (sX8_hasSheet (M.1.2 1) p1) = true then (if (sX8_in p2.toInt64 (0 : Int64) (((M.1.2 1) (20 + p1).toNatClampNeg).toInt64)) = true then (0 : Int32) else (2 : Int32)) else (1 : Int32))) p1 p2) (run_c (va_runV (As := [.int p1, .int p2]) (rest := []) ⟨hx, hb, hml, hown, hts⟩ (c_X8_drawnOf l D cs w (msS M 0 (if (sX8_hasSheet (M.1.2 1) p1) = true then (if (sX8_in p2.toInt64 (0 : Int64) (((M.1.2 1) (20 + p1).toNatClampNeg).toInt64)) = true then (0 : Int32) else (2 : Int32)) else (1 : Int32))) p1 p2 f3) (cwV 2 hts (good_V w_ml_X8_235 w_im_X8_drawnOf w_se_X8_drawnOf w_in_X8 w_co_X8_drawnOf) rfl rfl rfl ⟨rfl, hd_X8_drawnOf⟩ ⟨Nat.le_of_ble_eq_true rfl, Nat.le_of_ble_eq_true rfl⟩) (pe_W (C := RX8) (T := TX8) (N := 14) (ci := 8) (q0 := 0) hP hE rfl rfl) rfl rfl hl.1 rfl (lv_room (Nat.le_of_ble_eq_true rfl)) dX8_drawnIn_51 ⟨Nat.zero_le _, Nat.zero_le _⟩)) ?_
      exact W.iret (v := sX8_drawnOf (msS M 0 (if (sX8_hasSheet (M.1.2 1) p1) = true then (if (sX8_in p2.toInt64 (0 : Int64) (((M.1.2 1) (20 + p1).toNatClampNeg).toInt64)) = true then (0 : Int32) else (2 : Int32)) else (1 : Int32))) p1 p2) hx hb hr (fun t ht hW => ⟨⟨sX8_drawnOf (msS M 0 (if (sX8_hasSheet (M.1.2 1) p1) = true then (if (sX8_in p2.toInt64 (0 : Int64) (((M.1.2 1) (20 + p1).toNatClampNeg).toInt64)) = true then (0 : Int32) else (2 : Int32)) else (1 : Int32))) p1 p2, (msS M 0 (if (sX8_hasSheet (M.1.2 1) p1) = true then (if (sX8_in p2.toInt64 (0 : Int64) (((M.1.2 1) (20 + p1).toNatClampNeg).toInt64)) = true then (0 : Int32) else (2 : Int32)) else (1 : Int32))), rfl, pair_eq hv, pw ht hP⟩, hS.F ht⟩) hS.2.2 dX8_drawnIn_54 (hlocks := hlocks)
    · have c43 := b2i_t c43
      have hv := (if_pos c43).symm.trans hv
      refine lv_iconst (v := 0) hx hb dX8_drawnIn_46 (by decide) ?_
      exact W.iret (v := 0) hx hb hr (fun t ht hW => ⟨⟨0, (msS M 0 (if (sX8_hasSheet (M.1.2 1) p1) = true then (if (sX8_in p2.toInt64 (0 : Int64) (((M.1.2 1) (20 + p1).toNatClampNeg).toInt64)) = true then (0 : Int32) else (2 : Int32)) else (1 : Int32))), rfl, pair_eq hv, pw ht hP⟩, hS.F ht⟩) hS.2.2 dX8_drawnIn_47 (hlocks := hlocks)
  · refine lv_if_ne (tgt := 16) hx hb dX8_drawnIn_9 (by decide) (fun c9 => ?_) (fun c9 => ?_)
    · have c9 := b2i_t c9
      refine lv_iload_n hx hb dX8_drawnIn_16 rfl (lv_at hl 2 rfl) ?_
      refine lv_i2l hx hb dX8_drawnIn_17 rfl ?_
      refine lv_lconst (v := 0) hx hb dX8_drawnIn_18 (by decide) ?_
      have f0 := (hasS_t hv0.1.1 c9).v hv0
      refine lv_aload_n hx hb dX8_drawnIn_19 rfl (lv_at hl 0 rfl) ?_
      refine va_get (D := D) (ci := 8) (v := .ref (w 1)) (C := RX8) (T := TX8) (N := 14) hx hb hts iw_X8 hown hK hP 0 rfl rfl 1 (by decide) (hts _ w_fl_X8_7) (fun _ h9 => h9) rfl dX8_drawnIn_20 ?_
      refine lv_bipush (v := 20) hx hb dX8_drawnIn_23 (by decide) ?_
      refine lv_iload_n hx hb dX8_drawnIn_25 rfl (lv_at hl 1 rfl) ?_
      refine lv_iadd hx hb dX8_drawnIn_26 ?_
      refine va_iald (cA := cs 0) (n := 414) (f := (M.1.2 1)) hx hb hK hP 1 0 rfl rfl (vp_off (K := 20) rfl (by assumption) (by decide) (by decide)) dX8_drawnIn_27 ?_
      refine lv_i2l hx hb dX8_drawnIn_28 rfl ?_
      refine ro_i (b2i (sX8_in p2.toInt64 (0 : Int64) (((M.1.2 1) (20 + p1).toNatClampNeg).toInt64))) (run_c (va_runS (As := [.long p2.toInt64, .long (0 : Int64), .long (((M.1.2 1) (20 + p1).toNatClampNeg).toInt64)]) (rest := [.ref (w 0)]) ⟨hx, hb, hml, hown, hts⟩ (c_X8_in l D cs p2.toInt64 (0 : Int64) (((M.1.2 1) (20 + p1).toNatClampNeg).toInt64)) (cwS 3 hts (good_S w_ml_X8_42 w_st_X8_in w_in_X8 w_co_X8_in) rfl rfl rfl ⟨rfl, hd_X8_in⟩ ⟨Nat.le_of_ble_eq_true rfl, Nat.le_of_ble_eq_true rfl⟩) (pe_S (p_nil D _) hE) rfl rfl hl.1 rfl (lv_room (Nat.le_of_ble_eq_true rfl)) dX8_drawnIn_29 ⟨Nat.zero_le _, Nat.zero_le _⟩)) ?_
      refine lv_if_ne (tgt := 39) hx hb dX8_drawnIn_32 (by decide) (fun c32 => ?_) (fun c32 => ?_)
      · have c32 := b2i_t c32
        refine lv_iconst (v := 0) hx hb dX8_drawnIn_39 (by decide) ?_
        exact hJ _ ((if_pos c9).trans ((if_pos c32).trans rfl))
      · have c32 := b2i_f c32
        refine lv_iconst (v := 2) hx hb dX8_drawnIn_35 (by decide) ?_
        refine lv_goto (tgt := 40) hx hb dX8_drawnIn_36 (by decide) ?_
        exact hJ _ ((if_pos c9).trans ((if_neg c32).trans rfl))
    · have c9 := b2i_f c9
      refine lv_iconst (v := 1) hx hb dX8_drawnIn_12 (by decide) ?_
      refine lv_goto (tgt := 40) hx hb dX8_drawnIn_13 (by decide) ?_
      exact hJ _ ((if_neg c9).trans rfl)
theorem hd_X8_printed : yX8_printed.cls ≠ "java/lang/invoke/MethodHandle" ∧ yX8_printed.cls ≠ "java/lang/invoke/VarHandle" ∧ (parseMethodDescriptor yX8_printed.desc).map (fun d => d.parameters.length) = some 2 := by decide +kernel
def sX8_printed (M : MS) (p1 : Int32) (p2 : Int32) : Int32 × MS := (if (refB (if (sX8_hasPrint (M.1.2 1) p1) = true then (if (sX8_in p2.toInt64 (0 : Int64) (8 : Int64)) = true then (0 : Int32) else (2 : Int32)) else (1 : Int32))) = true then (0, (msS M 0 (if (sX8_hasPrint (M.1.2 1) p1) = true then (if (sX8_in p2.toInt64 (0 : Int64) (8 : Int64)) = true then (0 : Int32) else (2 : Int32)) else (1 : Int32)))) else (if p2 = 0 then ((M.1.2 1) (150 + p1).toNatClampNeg, (msS M 0 (if (sX8_hasPrint (M.1.2 1) p1) = true then (if (sX8_in p2.toInt64 (0 : Int64) (8 : Int64)) = true then (0 : Int32) else (2 : Int32)) else (1 : Int32)))) else (if p2 = 1 then ((M.1.2 1) (174 + p1).toNatClampNeg, (msS M 0 (if (sX8_hasPrint (M.1.2 1) p1) = true then (if (sX8_in p2.toInt64 (0 : Int64) (8 : Int64)) = true then (0 : Int32) else (2 : Int32)) else (1 : Int32)))) else (if p2 = 2 then ((M.1.2 1) (198 + p1).toNatClampNeg, (msS M 0 (if (sX8_hasPrint (M.1.2 1) p1) = true then (if (sX8_in p2.toInt64 (0 : Int64) (8 : Int64)) = true then (0 : Int32) else (2 : Int32)) else (1 : Int32)))) else (if p2 = 3 then ((M.1.2 1) (222 + p1).toNatClampNeg, (msS M 0 (if (sX8_hasPrint (M.1.2 1) p1) = true then (if (sX8_in p2.toInt64 (0 : Int64) (8 : Int64)) = true then (0 : Int32) else (2 : Int32)) else (1 : Int32)))) else (if p2 = 4 then ((M.1.2 1) (246 + p1).toNatClampNeg, (msS M 0 (if (sX8_hasPrint (M.1.2 1) p1) = true then (if (sX8_in p2.toInt64 (0 : Int64) (8 : Int64)) = true then (0 : Int32) else (2 : Int32)) else (1 : Int32)))) else (if p2 = 5 then (b2i (if (sX8_isOut (M.1.2 1) p1) = true then true else false), (msS M 0 (if (sX8_hasPrint (M.1.2 1) p1) = true then (if (sX8_in p2.toInt64 (0 : Int64) (8 : Int64)) = true then (0 : Int32) else (2 : Int32)) else (1 : Int32)))) else (if p2 = 6 then ((M.1.2 1) (270 + p1).toNatClampNeg, (msS M 0 (if (sX8_hasPrint (M.1.2 1) p1) = true then (if (sX8_in p2.toInt64 (0 : Int64) (8 : Int64)) = true then (0 : Int32) else (2 : Int32)) else (1 : Int32)))) else (if p2 = 7 then (b2i (if (sX8_mayBuild (M.1.2 1) p1) = true then true else false), (msS M 0 (if (sX8_hasPrint (M.1.2 1) p1) = true then (if (sX8_in p2.toInt64 (0 : Int64) (8 : Int64)) = true then (0 : Int32) else (2 : Int32)) else (1 : Int32)))) else (sX8_fieldsOf (M.1.2 1) p1, (msS M 0 (if (sX8_hasPrint (M.1.2 1) p1) = true then (if (sX8_in p2.toInt64 (0 : Int64) (8 : Int64)) = true then (0 : Int32) else (2 : Int32)) else (1 : Int32)))))))))))))
set_option maxHeartbeats 4000000 in
set_option maxRecDepth 100000 in
theorem c_X8_printed (l : Launch) (D : va_G) (cs : Nat → ClassId) (w : Nat → Nat) (M : MS) (p1 : Int32) (p2 : Int32) (hd : mD w) (hv0 : MV (M.1.2 1)) : Met l yX8_printed (wc yX8_printed cX8_printed 3 (some .int)) ({ frames := 3, cells := 0, slots := 0, locals := 63 } : Room) (va_Pc [.ref (w 0), .int p1, .int p2] (PE D cs (mW cs w M))) (va_Qi (fun (r9 : Int32) (u : MS) => r9 = (sX8_printed M p1 p2).1 ∧ u = (sX8_printed M p1 p2).2) (fun u t => va_P D vwC (mW cs w u) t.heap) (mA w)) 0 0 (mA w) := by
  obtain ⟨v, hv⟩ : ∃ v, sX8_printed M p1 p2 = v := ⟨_, rfl⟩
  rw [hv]
  refine met_o (lv := [(0, .ref (w 0)), (1, .int p1), (2, .int p2)]) (by decide) (Nat.le_of_ble_eq_true rfl) rfl ?_
  intro p e s m args below meth c ls hx hb hr hml hts hown hlocks hin hP hE hl
  have hown : s.vm.findClass RX8 = some m.cls := hown
  have hK := hE.1
  have hP : va_P D vwC (mW cs w M) s.heap := hP
  have hS : va_S (mA w) s.heap s.heap [] := va_S.rf
  unfold sX8_printed at hv
  refine lv_aload_n hx hb dX8_printed_0 rfl (lv_at hl 0 rfl) ?_
  refine lv_aload_n hx hb dX8_printed_1 rfl (lv_at hl 0 rfl) ?_
  refine va_get (D := D) (ci := 8) (v := .ref (w 1)) (C := RX8) (T := TX8) (N := 14) hx hb hts iw_X8 hown hK hP 0 rfl rfl 1 (by decide) (hts _ w_fl_X8_7) (fun _ h9 => h9) rfl dX8_printed_2 ?_
  refine lv_iload_n hx hb dX8_printed_5 rfl (lv_at hl 1 rfl) ?_
  refine ro_i (b2i (sX8_hasPrint (M.1.2 1) p1)) (run_c (va_runS (As := [.ref (w 1), .int p1]) (rest := [.ref (w 0)]) ⟨hx, hb, hml, hown, hts⟩ (c_X8_hasPrint l D cs (w 1) (M.1.2 1) p1) (cwS 2 hts (good_S w_ml_X8_178 w_st_X8_hasPrint w_in_X8 w_co_X8_hasPrint) rfl rfl rfl ⟨rfl, hd_X8_hasPrint⟩ ⟨Nat.le_of_ble_eq_true rfl, Nat.le_of_ble_eq_true rfl⟩) (pe_S (hP.sub (ws' := rowW cs (w 1) (M.1.2 1)) [1] rfl) hE) rfl rfl hl.1 rfl (lv_room (Nat.le_of_ble_eq_true rfl)) dX8_printed_6 ⟨Nat.zero_le _, Nat.zero_le _⟩)) ?_
  refine join_i (J := 33) (ls := ls) (rest := [.ref (w 0)]) ((if (sX8_hasPrint (M.1.2 1) p1) = true then (if (sX8_in p2.toInt64 (0 : Int64) (8 : Int64)) = true then (0 : Int32) else (2 : Int32)) else (1 : Int32))) ?_ (fun hJ => ?_)
  · refine w_b (refB (if (sX8_hasPrint (M.1.2 1) p1) = true then (if (sX8_in p2.toInt64 (0 : Int64) (8 : Int64)) = true then (0 : Int32) else (2 : Int32)) else (1 : Int32)), (msS M 0 (if (sX8_hasPrint (M.1.2 1) p1) = true then (if (sX8_in p2.toInt64 (0 : Int64) (8 : Int64)) = true then (0 : Int32) else (2 : Int32)) else (1 : Int32)))) (va_runV (As := [.int (if (sX8_hasPrint (M.1.2 1) p1) = true then (if (sX8_in p2.toInt64 (0 : Int64) (8 : Int64)) = true then (0 : Int32) else (2 : Int32)) else (1 : Int32))]) (rest := []) ⟨hx, hb, hml, hown, hts⟩ (c_X8_refused l D cs w M (if (sX8_hasPrint (M.1.2 1) p1) = true then (if (sX8_in p2.toInt64 (0 : Int64) (8 : Int64)) = true then (0 : Int32) else (2 : Int32)) else (1 : Int32)) hd) (cwV 1 hts (good_V w_ml_X8_105 w_im_X8_refused w_se_X8_refused w_in_X8 w_co_X8_refused) rfl rfl rfl ⟨rfl, hd_X8_refused⟩ ⟨Nat.le_of_ble_eq_true rfl, Nat.le_of_ble_eq_true rfl⟩) (pe_W (C := RX8) (T := TX8) (N := 14) (ci := 8) (q0 := 0) hP hE rfl rfl) rfl rfl hl.1 rfl (lv_room (Nat.le_of_ble_eq_true rfl)) dX8_printed_33 ⟨Nat.zero_le _, Nat.zero_le _⟩) hS (fun _ _ h => h) (fun _ h => h) (fun t locs hB hz hk hS => ?_)
    have hP : va_P D vwC (mW cs w (msS M 0 (if (sX8_hasPrint (M.1.2 1) p1) = true then (if (sX8_in p2.toInt64 (0 : Int64) (8 : Int64)) = true then (0 : Int32) else (2 : Int32)) else (1 : Int32)))) t.heap := hB
    refine lv_if_eq (tgt := 41) hx hb dX8_printed_36 (by decide) (fun c36 => ?_) (fun c36 => ?_)
    · have c36 := b2i_f c36
      have hv := (if_neg c36).symm.trans hv
      have f1 := ift (by decide) (rf0 c36)
      have f2 := hasP_t hv0.2.1.1 f1.1
      have f3 := f2.v hv0
      refine lv_iload_n hx hb dX8_printed_41 rfl (lv_at hl 2 rfl) ?_
      by_cases c42_0 : p2 = 0
      · have hv := (if_pos c42_0).symm.trans hv
        refine lv_tableIn (off := 46) (tgt := 88) hx hb dX8_printed_42 (by rw [c42_0]; decide) (by rw [c42_0]; decide) (by rw [c42_0]; rfl) (by decide) ?_
        refine lv_aload_n hx hb dX8_printed_88 rfl (lv_at hl 0 rfl) ?_
        refine va_get (D := D) (ci := 8) (v := .ref (w 1)) (C := RX8) (T := TX8) (N := 14) hx hb hts iw_X8 hown hK hP 0 rfl rfl 1 (by decide) (hts _ w_fl_X8_7) (fun _ h9 => h9) rfl dX8_printed_89 ?_
        refine lv_sipush (v := 150) hx hb dX8_printed_92 (by decide) ?_
        refine lv_iload_n hx hb dX8_printed_95 rfl (lv_at hl 1 rfl) ?_
        refine lv_iadd hx hb dX8_printed_96 ?_
        refine va_iald (cA := cs 0) (n := 414) (f := (M.1.2 1)) hx hb hK hP 1 0 rfl rfl (vp_off (K := 150) rfl (by assumption) (by decide) (by decide)) dX8_printed_97 ?_
        exact W.iret (v := (M.1.2 1) (150 + p1).toNatClampNeg) hx hb hr (fun t ht hW => ⟨⟨(M.1.2 1) (150 + p1).toNatClampNeg, (msS M 0 (if (sX8_hasPrint (M.1.2 1) p1) = true then (if (sX8_in p2.toInt64 (0 : Int64) (8 : Int64)) = true then (0 : Int32) else (2 : Int32)) else (1 : Int32))), rfl, pair_eq hv, pw ht hP⟩, hS.F ht⟩) hS.2.2 dX8_printed_98 (hlocks := hlocks)
      · have hv := (if_neg c42_0).symm.trans hv
        by_cases c42_1 : p2 = 1
        · have hv := (if_pos c42_1).symm.trans hv
          refine lv_tableIn (off := 57) (tgt := 99) hx hb dX8_printed_42 (by rw [c42_1]; decide) (by rw [c42_1]; decide) (by rw [c42_1]; rfl) (by decide) ?_
          refine lv_aload_n hx hb dX8_printed_99 rfl (lv_at hl 0 rfl) ?_
          refine va_get (D := D) (ci := 8) (v := .ref (w 1)) (C := RX8) (T := TX8) (N := 14) hx hb hts iw_X8 hown hK hP 0 rfl rfl 1 (by decide) (hts _ w_fl_X8_7) (fun _ h9 => h9) rfl dX8_printed_100 ?_
          refine lv_sipush (v := 174) hx hb dX8_printed_103 (by decide) ?_
          refine lv_iload_n hx hb dX8_printed_106 rfl (lv_at hl 1 rfl) ?_
          refine lv_iadd hx hb dX8_printed_107 ?_
          refine va_iald (cA := cs 0) (n := 414) (f := (M.1.2 1)) hx hb hK hP 1 0 rfl rfl (vp_off (K := 174) rfl (by assumption) (by decide) (by decide)) dX8_printed_108 ?_
          exact W.iret (v := (M.1.2 1) (174 + p1).toNatClampNeg) hx hb hr (fun t ht hW => ⟨⟨(M.1.2 1) (174 + p1).toNatClampNeg, (msS M 0 (if (sX8_hasPrint (M.1.2 1) p1) = true then (if (sX8_in p2.toInt64 (0 : Int64) (8 : Int64)) = true then (0 : Int32) else (2 : Int32)) else (1 : Int32))), rfl, pair_eq hv, pw ht hP⟩, hS.F ht⟩) hS.2.2 dX8_printed_109 (hlocks := hlocks)
        · have hv := (if_neg c42_1).symm.trans hv
          by_cases c42_2 : p2 = 2
          · have hv := (if_pos c42_2).symm.trans hv
            refine lv_tableIn (off := 68) (tgt := 110) hx hb dX8_printed_42 (by rw [c42_2]; decide) (by rw [c42_2]; decide) (by rw [c42_2]; rfl) (by decide) ?_
            refine lv_aload_n hx hb dX8_printed_110 rfl (lv_at hl 0 rfl) ?_
            refine va_get (D := D) (ci := 8) (v := .ref (w 1)) (C := RX8) (T := TX8) (N := 14) hx hb hts iw_X8 hown hK hP 0 rfl rfl 1 (by decide) (hts _ w_fl_X8_7) (fun _ h9 => h9) rfl dX8_printed_111 ?_
            refine lv_sipush (v := 198) hx hb dX8_printed_114 (by decide) ?_
            refine lv_iload_n hx hb dX8_printed_117 rfl (lv_at hl 1 rfl) ?_
            refine lv_iadd hx hb dX8_printed_118 ?_
            refine va_iald (cA := cs 0) (n := 414) (f := (M.1.2 1)) hx hb hK hP 1 0 rfl rfl (vp_off (K := 198) rfl (by assumption) (by decide) (by decide)) dX8_printed_119 ?_
            exact W.iret (v := (M.1.2 1) (198 + p1).toNatClampNeg) hx hb hr (fun t ht hW => ⟨⟨(M.1.2 1) (198 + p1).toNatClampNeg, (msS M 0 (if (sX8_hasPrint (M.1.2 1) p1) = true then (if (sX8_in p2.toInt64 (0 : Int64) (8 : Int64)) = true then (0 : Int32) else (2 : Int32)) else (1 : Int32))), rfl, pair_eq hv, pw ht hP⟩, hS.F ht⟩) hS.2.2 dX8_printed_120 (hlocks := hlocks)
          · have hv := (if_neg c42_2).symm.trans hv
            by_cases c42_3 : p2 = 3
            · have hv := (if_pos c42_3).symm.trans hv
              refine lv_tableIn (off := 79) (tgt := 121) hx hb dX8_printed_42 (by rw [c42_3]; decide) (by rw [c42_3]; decide) (by rw [c42_3]; rfl) (by decide) ?_
              refine lv_aload_n hx hb dX8_printed_121 rfl (lv_at hl 0 rfl) ?_
              refine va_get (D := D) (ci := 8) (v := .ref (w 1)) (C := RX8) (T := TX8) (N := 14) hx hb hts iw_X8 hown hK hP 0 rfl rfl 1 (by decide) (hts _ w_fl_X8_7) (fun _ h9 => h9) rfl dX8_printed_122 ?_
              refine lv_sipush (v := 222) hx hb dX8_printed_125 (by decide) ?_
              refine lv_iload_n hx hb dX8_printed_128 rfl (lv_at hl 1 rfl) ?_
              refine lv_iadd hx hb dX8_printed_129 ?_
              refine va_iald (cA := cs 0) (n := 414) (f := (M.1.2 1)) hx hb hK hP 1 0 rfl rfl (vp_off (K := 222) rfl (by assumption) (by decide) (by decide)) dX8_printed_130 ?_
              exact W.iret (v := (M.1.2 1) (222 + p1).toNatClampNeg) hx hb hr (fun t ht hW => ⟨⟨(M.1.2 1) (222 + p1).toNatClampNeg, (msS M 0 (if (sX8_hasPrint (M.1.2 1) p1) = true then (if (sX8_in p2.toInt64 (0 : Int64) (8 : Int64)) = true then (0 : Int32) else (2 : Int32)) else (1 : Int32))), rfl, pair_eq hv, pw ht hP⟩, hS.F ht⟩) hS.2.2 dX8_printed_131 (hlocks := hlocks)
            · have hv := (if_neg c42_3).symm.trans hv
              by_cases c42_4 : p2 = 4
              · have hv := (if_pos c42_4).symm.trans hv
                refine lv_tableIn (off := 90) (tgt := 132) hx hb dX8_printed_42 (by rw [c42_4]; decide) (by rw [c42_4]; decide) (by rw [c42_4]; rfl) (by decide) ?_
                refine lv_aload_n hx hb dX8_printed_132 rfl (lv_at hl 0 rfl) ?_
                refine va_get (D := D) (ci := 8) (v := .ref (w 1)) (C := RX8) (T := TX8) (N := 14) hx hb hts iw_X8 hown hK hP 0 rfl rfl 1 (by decide) (hts _ w_fl_X8_7) (fun _ h9 => h9) rfl dX8_printed_133 ?_
                refine lv_sipush (v := 246) hx hb dX8_printed_136 (by decide) ?_
                refine lv_iload_n hx hb dX8_printed_139 rfl (lv_at hl 1 rfl) ?_
                refine lv_iadd hx hb dX8_printed_140 ?_
                refine va_iald (cA := cs 0) (n := 414) (f := (M.1.2 1)) hx hb hK hP 1 0 rfl rfl (vp_off (K := 246) rfl (by assumption) (by decide) (by decide)) dX8_printed_141 ?_
                exact W.iret (v := (M.1.2 1) (246 + p1).toNatClampNeg) hx hb hr (fun t ht hW => ⟨⟨(M.1.2 1) (246 + p1).toNatClampNeg, (msS M 0 (if (sX8_hasPrint (M.1.2 1) p1) = true then (if (sX8_in p2.toInt64 (0 : Int64) (8 : Int64)) = true then (0 : Int32) else (2 : Int32)) else (1 : Int32))), rfl, pair_eq hv, pw ht hP⟩, hS.F ht⟩) hS.2.2 dX8_printed_142 (hlocks := hlocks)
              · have hv := (if_neg c42_4).symm.trans hv
                by_cases c42_5 : p2 = 5
                · have hv := (if_pos c42_5).symm.trans hv
                  refine lv_tableIn (off := 101) (tgt := 143) hx hb dX8_printed_42 (by rw [c42_5]; decide) (by rw [c42_5]; decide) (by rw [c42_5]; rfl) (by decide) ?_
                  refine lv_aload_n hx hb dX8_printed_143 rfl (lv_at hl 0 rfl) ?_
                  refine va_get (D := D) (ci := 8) (v := .ref (w 1)) (C := RX8) (T := TX8) (N := 14) hx hb hts iw_X8 hown hK hP 0 rfl rfl 1 (by decide) (hts _ w_fl_X8_7) (fun _ h9 => h9) rfl dX8_printed_144 ?_
                  refine lv_iload_n hx hb dX8_printed_147 rfl (lv_at hl 1 rfl) ?_
                  refine ro_i (b2i (sX8_isOut (M.1.2 1) p1)) (run_c (va_runS (As := [.ref (w 1), .int p1]) (rest := []) ⟨hx, hb, hml, hown, hts⟩ (c_X8_isOut l D cs (w 1) (M.1.2 1) p1) (cwS 2 hts (good_S w_ml_X8_70 w_st_X8_isOut w_in_X8 w_co_X8_isOut) rfl rfl rfl ⟨rfl, hd_X8_isOut⟩ ⟨Nat.le_of_ble_eq_true rfl, Nat.le_of_ble_eq_true rfl⟩) (pe_S (hP.sub (ws' := rowW cs (w 1) (M.1.2 1)) [1] rfl) hE) rfl rfl hl.1 rfl (lv_room (Nat.le_of_ble_eq_true rfl)) dX8_printed_148 ⟨Nat.zero_le _, Nat.zero_le _⟩)) ?_
                  refine join_i (J := 159) (ls := ls) (rest := []) (b2i (if (sX8_isOut (M.1.2 1) p1) = true then true else false)) ?_ (fun hJ => ?_)
                  · exact W.iret (v := b2i (if (sX8_isOut (M.1.2 1) p1) = true then true else false)) hx hb hr (fun t ht hW => ⟨⟨b2i (if (sX8_isOut (M.1.2 1) p1) = true then true else false), (msS M 0 (if (sX8_hasPrint (M.1.2 1) p1) = true then (if (sX8_in p2.toInt64 (0 : Int64) (8 : Int64)) = true then (0 : Int32) else (2 : Int32)) else (1 : Int32))), rfl, pair_eq hv, pw ht hP⟩, hS.F ht⟩) hS.2.2 dX8_printed_159 (hlocks := hlocks)
                  · refine lv_if_eq (tgt := 158) hx hb dX8_printed_151 (by decide) (fun c151 => ?_) (fun c151 => ?_)
                    · have c151 := b2i_f c151
                      refine lv_iconst (v := 0) hx hb dX8_printed_158 (by decide) ?_
                      exact hJ _ (congrArg b2i ((if_neg c151).trans rfl))
                    · have c151 := b2i_t c151
                      refine lv_iconst (v := 1) hx hb dX8_printed_154 (by decide) ?_
                      refine lv_goto (tgt := 159) hx hb dX8_printed_155 (by decide) ?_
                      exact hJ _ (congrArg b2i ((if_pos c151).trans rfl))
                · have hv := (if_neg c42_5).symm.trans hv
                  by_cases c42_6 : p2 = 6
                  · have hv := (if_pos c42_6).symm.trans hv
                    refine lv_tableIn (off := 118) (tgt := 160) hx hb dX8_printed_42 (by rw [c42_6]; decide) (by rw [c42_6]; decide) (by rw [c42_6]; rfl) (by decide) ?_
                    refine lv_aload_n hx hb dX8_printed_160 rfl (lv_at hl 0 rfl) ?_
                    refine va_get (D := D) (ci := 8) (v := .ref (w 1)) (C := RX8) (T := TX8) (N := 14) hx hb hts iw_X8 hown hK hP 0 rfl rfl 1 (by decide) (hts _ w_fl_X8_7) (fun _ h9 => h9) rfl dX8_printed_161 ?_
                    refine lv_sipush (v := 270) hx hb dX8_printed_164 (by decide) ?_
                    refine lv_iload_n hx hb dX8_printed_167 rfl (lv_at hl 1 rfl) ?_
                    refine lv_iadd hx hb dX8_printed_168 ?_
                    refine va_iald (cA := cs 0) (n := 414) (f := (M.1.2 1)) hx hb hK hP 1 0 rfl rfl (vp_off (K := 270) rfl (by assumption) (by decide) (by decide)) dX8_printed_169 ?_
                    exact W.iret (v := (M.1.2 1) (270 + p1).toNatClampNeg) hx hb hr (fun t ht hW => ⟨⟨(M.1.2 1) (270 + p1).toNatClampNeg, (msS M 0 (if (sX8_hasPrint (M.1.2 1) p1) = true then (if (sX8_in p2.toInt64 (0 : Int64) (8 : Int64)) = true then (0 : Int32) else (2 : Int32)) else (1 : Int32))), rfl, pair_eq hv, pw ht hP⟩, hS.F ht⟩) hS.2.2 dX8_printed_170 (hlocks := hlocks)
                  · have hv := (if_neg c42_6).symm.trans hv
                    by_cases c42_7 : p2 = 7
                    · have hv := (if_pos c42_7).symm.trans hv
                      refine lv_tableIn (off := 129) (tgt := 171) hx hb dX8_printed_42 (by rw [c42_7]; decide) (by rw [c42_7]; decide) (by rw [c42_7]; rfl) (by decide) ?_
                      refine lv_aload_n hx hb dX8_printed_171 rfl (lv_at hl 0 rfl) ?_
                      refine va_get (D := D) (ci := 8) (v := .ref (w 1)) (C := RX8) (T := TX8) (N := 14) hx hb hts iw_X8 hown hK hP 0 rfl rfl 1 (by decide) (hts _ w_fl_X8_7) (fun _ h9 => h9) rfl dX8_printed_172 ?_
                      refine lv_iload_n hx hb dX8_printed_175 rfl (lv_at hl 1 rfl) ?_
                      refine ro_i (b2i (sX8_mayBuild (M.1.2 1) p1)) (run_c (va_runS (As := [.ref (w 1), .int p1]) (rest := []) ⟨hx, hb, hml, hown, hts⟩ (c_X8_mayBuild l D cs (w 1) (M.1.2 1) p1 f3) (cwS 2 hts (good_S w_ml_X8_87 w_st_X8_mayBuild w_in_X8 w_co_X8_mayBuild) rfl rfl rfl ⟨rfl, hd_X8_mayBuild⟩ ⟨Nat.le_of_ble_eq_true rfl, Nat.le_of_ble_eq_true rfl⟩) (pe_S (hP.sub (ws' := rowW cs (w 1) (M.1.2 1)) [1] rfl) hE) rfl rfl hl.1 rfl (lv_room (Nat.le_of_ble_eq_true rfl)) dX8_printed_176 ⟨Nat.zero_le _, Nat.zero_le _⟩)) ?_
                      refine join_i (J := 187) (ls := ls) (rest := []) (b2i (if (sX8_mayBuild (M.1.2 1) p1) = true then true else false)) ?_ (fun hJ => ?_)
                      · exact W.iret (v := b2i (if (sX8_mayBuild (M.1.2 1) p1) = true then true else false)) hx hb hr (fun t ht hW => ⟨⟨b2i (if (sX8_mayBuild (M.1.2 1) p1) = true then true else false), (msS M 0 (if (sX8_hasPrint (M.1.2 1) p1) = true then (if (sX8_in p2.toInt64 (0 : Int64) (8 : Int64)) = true then (0 : Int32) else (2 : Int32)) else (1 : Int32))), rfl, pair_eq hv, pw ht hP⟩, hS.F ht⟩) hS.2.2 dX8_printed_187 (hlocks := hlocks)
                      · refine lv_if_eq (tgt := 186) hx hb dX8_printed_179 (by decide) (fun c179 => ?_) (fun c179 => ?_)
                        · have c179 := b2i_f c179
                          refine lv_iconst (v := 0) hx hb dX8_printed_186 (by decide) ?_
                          exact hJ _ (congrArg b2i ((if_neg c179).trans rfl))
                        · have c179 := b2i_t c179
                          refine lv_iconst (v := 1) hx hb dX8_printed_182 (by decide) ?_
                          refine lv_goto (tgt := 187) hx hb dX8_printed_183 (by decide) ?_
                          exact hJ _ (congrArg b2i ((if_pos c179).trans rfl))
                    · have hv := (if_neg c42_7).symm.trans hv
                      have e0 : p2.toInt ≠ 0 := sw_ne c42_0
                      have e1 : p2.toInt ≠ 1 := sw_ne c42_1
                      have e2 : p2.toInt ≠ 2 := sw_ne c42_2
                      have e3 : p2.toInt ≠ 3 := sw_ne c42_3
                      have e4 : p2.toInt ≠ 4 := sw_ne c42_4
                      have e5 : p2.toInt ≠ 5 := sw_ne c42_5
                      have e6 : p2.toInt ≠ 6 := sw_ne c42_6
                      have e7 : p2.toInt ≠ 7 := sw_ne c42_7
                      refine lv_tableOut (tgt := 188) hx hb dX8_printed_42 (by omega) (by decide) ?_
                      refine lv_aload_n hx hb dX8_printed_188 rfl (lv_at hl 0 rfl) ?_
                      refine va_get (D := D) (ci := 8) (v := .ref (w 1)) (C := RX8) (T := TX8) (N := 14) hx hb hts iw_X8 hown hK hP 0 rfl rfl 1 (by decide) (hts _ w_fl_X8_7) (fun _ h9 => h9) rfl dX8_printed_189 ?_
                      refine lv_iload_n hx hb dX8_printed_192 rfl (lv_at hl 1 rfl) ?_
                      refine ro_i (sX8_fieldsOf (M.1.2 1) p1) (run_c (va_runS (As := [.ref (w 1), .int p1]) (rest := []) ⟨hx, hb, hml, hown, hts⟩ (c_X8_fieldsOf l D cs (w 1) (M.1.2 1) p1 hv0 f2) (cwS 2 hts (good_S w_ml_X8_240 w_st_X8_fieldsOf w_in_X8 w_co_X8_fieldsOf) rfl rfl rfl ⟨rfl, hd_X8_fieldsOf⟩ ⟨Nat.le_of_ble_eq_true rfl, Nat.le_of_ble_eq_true rfl⟩) (pe_S (hP.sub (ws' := rowW cs (w 1) (M.1.2 1)) [1] rfl) hE) rfl rfl hl.1 rfl (lv_room (Nat.le_of_ble_eq_true rfl)) dX8_printed_193 ⟨Nat.zero_le _, Nat.zero_le _⟩)) ?_
                      exact W.iret (v := sX8_fieldsOf (M.1.2 1) p1) hx hb hr (fun t ht hW => ⟨⟨sX8_fieldsOf (M.1.2 1) p1, (msS M 0 (if (sX8_hasPrint (M.1.2 1) p1) = true then (if (sX8_in p2.toInt64 (0 : Int64) (8 : Int64)) = true then (0 : Int32) else (2 : Int32)) else (1 : Int32))), rfl, pair_eq hv, pw ht hP⟩, hS.F ht⟩) hS.2.2 dX8_printed_196 (hlocks := hlocks)
    · have c36 := b2i_t c36
      have hv := (if_pos c36).symm.trans hv
      refine lv_iconst (v := 0) hx hb dX8_printed_39 (by decide) ?_
      exact W.iret (v := 0) hx hb hr (fun t ht hW => ⟨⟨0, (msS M 0 (if (sX8_hasPrint (M.1.2 1) p1) = true then (if (sX8_in p2.toInt64 (0 : Int64) (8 : Int64)) = true then (0 : Int32) else (2 : Int32)) else (1 : Int32))), rfl, pair_eq hv, pw ht hP⟩, hS.F ht⟩) hS.2.2 dX8_printed_40 (hlocks := hlocks)
  · refine lv_if_ne (tgt := 16) hx hb dX8_printed_9 (by decide) (fun c9 => ?_) (fun c9 => ?_)
    · have c9 := b2i_t c9
      refine lv_iload_n hx hb dX8_printed_16 rfl (lv_at hl 2 rfl) ?_
      refine lv_i2l hx hb dX8_printed_17 rfl ?_
      refine lv_lconst (v := 0) hx hb dX8_printed_18 (by decide) ?_
      refine lv_ldc2 (v := 8) hx hb hown (hts _ w_cn_X8_238) dX8_printed_19 ?_
      refine ro_i (b2i (sX8_in p2.toInt64 (0 : Int64) (8 : Int64))) (run_c (va_runS (As := [.long p2.toInt64, .long (0 : Int64), .long (8 : Int64)]) (rest := [.ref (w 0)]) ⟨hx, hb, hml, hown, hts⟩ (c_X8_in l D cs p2.toInt64 (0 : Int64) (8 : Int64)) (cwS 3 hts (good_S w_ml_X8_42 w_st_X8_in w_in_X8 w_co_X8_in) rfl rfl rfl ⟨rfl, hd_X8_in⟩ ⟨Nat.le_of_ble_eq_true rfl, Nat.le_of_ble_eq_true rfl⟩) (pe_S (p_nil D _) hE) rfl rfl hl.1 rfl (lv_room (Nat.le_of_ble_eq_true rfl)) dX8_printed_22 ⟨Nat.zero_le _, Nat.zero_le _⟩)) ?_
      refine lv_if_ne (tgt := 32) hx hb dX8_printed_25 (by decide) (fun c25 => ?_) (fun c25 => ?_)
      · have c25 := b2i_t c25
        refine lv_iconst (v := 0) hx hb dX8_printed_32 (by decide) ?_
        exact hJ _ ((if_pos c9).trans ((if_pos c25).trans rfl))
      · have c25 := b2i_f c25
        refine lv_iconst (v := 2) hx hb dX8_printed_28 (by decide) ?_
        refine lv_goto (tgt := 33) hx hb dX8_printed_29 (by decide) ?_
        exact hJ _ ((if_pos c9).trans ((if_neg c25).trans rfl))
    · have c9 := b2i_f c9
      refine lv_iconst (v := 1) hx hb dX8_printed_12 (by decide) ?_
      refine lv_goto (tgt := 33) hx hb dX8_printed_13 (by decide) ?_
      exact hJ _ ((if_neg c9).trans rfl)
theorem hd_X8_work : yX8_work.cls ≠ "java/lang/invoke/MethodHandle" ∧ yX8_work.cls ≠ "java/lang/invoke/VarHandle" ∧ (parseMethodDescriptor yX8_work.desc).map (fun d => d.parameters.length) = some 2 := by decide +kernel
def sX8_work (M : MS) (p1 : Int32) (p2 : Int32) : Int32 × MS := (if (refB (if (sX8_hasWork (M.1.2 1) p1) = true then (if (sX8_in p2.toInt64 (0 : Int64) (4 : Int64)) = true then (0 : Int32) else (2 : Int32)) else (1 : Int32))) = true then (0, (msS M 0 (if (sX8_hasWork (M.1.2 1) p1) = true then (if (sX8_in p2.toInt64 (0 : Int64) (4 : Int64)) = true then (0 : Int32) else (2 : Int32)) else (1 : Int32)))) else (if p2 = 0 then ((M.1.2 1) (294 + p1).toNatClampNeg, (msS M 0 (if (sX8_hasWork (M.1.2 1) p1) = true then (if (sX8_in p2.toInt64 (0 : Int64) (4 : Int64)) = true then (0 : Int32) else (2 : Int32)) else (1 : Int32)))) else (if p2 = 1 then ((M.1.2 1) (324 + p1).toNatClampNeg, (msS M 0 (if (sX8_hasWork (M.1.2 1) p1) = true then (if (sX8_in p2.toInt64 (0 : Int64) (4 : Int64)) = true then (0 : Int32) else (2 : Int32)) else (1 : Int32)))) else (if p2 = 2 then ((M.1.2 1) (354 + p1).toNatClampNeg, (msS M 0 (if (sX8_hasWork (M.1.2 1) p1) = true then (if (sX8_in p2.toInt64 (0 : Int64) (4 : Int64)) = true then (0 : Int32) else (2 : Int32)) else (1 : Int32)))) else (if p2 = 3 then ((M.1.2 1) (384 + p1).toNatClampNeg, (msS M 0 (if (sX8_hasWork (M.1.2 1) p1) = true then (if (sX8_in p2.toInt64 (0 : Int64) (4 : Int64)) = true then (0 : Int32) else (2 : Int32)) else (1 : Int32)))) else (b2i (if (sX8_isWrong (M.1.2 1) p1) = true then true else false), (msS M 0 (if (sX8_hasWork (M.1.2 1) p1) = true then (if (sX8_in p2.toInt64 (0 : Int64) (4 : Int64)) = true then (0 : Int32) else (2 : Int32)) else (1 : Int32)))))))))
set_option maxHeartbeats 4000000 in
set_option maxRecDepth 100000 in
theorem c_X8_work (l : Launch) (D : va_G) (cs : Nat → ClassId) (w : Nat → Nat) (M : MS) (p1 : Int32) (p2 : Int32) (hd : mD w) (hv0 : MV (M.1.2 1)) : Met l yX8_work (wc yX8_work cX8_work 3 (some .int)) ({ frames := 2, cells := 0, slots := 0, locals := 46 } : Room) (va_Pc [.ref (w 0), .int p1, .int p2] (PE D cs (mW cs w M))) (va_Qi (fun (r9 : Int32) (u : MS) => r9 = (sX8_work M p1 p2).1 ∧ u = (sX8_work M p1 p2).2) (fun u t => va_P D vwC (mW cs w u) t.heap) (mA w)) 0 0 (mA w) := by
  obtain ⟨v, hv⟩ : ∃ v, sX8_work M p1 p2 = v := ⟨_, rfl⟩
  rw [hv]
  refine met_o (lv := [(0, .ref (w 0)), (1, .int p1), (2, .int p2)]) (by decide) (Nat.le_of_ble_eq_true rfl) rfl ?_
  intro p e s m args below meth c ls hx hb hr hml hts hown hlocks hin hP hE hl
  have hown : s.vm.findClass RX8 = some m.cls := hown
  have hK := hE.1
  have hP : va_P D vwC (mW cs w M) s.heap := hP
  have hS : va_S (mA w) s.heap s.heap [] := va_S.rf
  unfold sX8_work at hv
  refine lv_aload_n hx hb dX8_work_0 rfl (lv_at hl 0 rfl) ?_
  refine lv_aload_n hx hb dX8_work_1 rfl (lv_at hl 0 rfl) ?_
  refine va_get (D := D) (ci := 8) (v := .ref (w 1)) (C := RX8) (T := TX8) (N := 14) hx hb hts iw_X8 hown hK hP 0 rfl rfl 1 (by decide) (hts _ w_fl_X8_7) (fun _ h9 => h9) rfl dX8_work_2 ?_
  refine lv_iload_n hx hb dX8_work_5 rfl (lv_at hl 1 rfl) ?_
  refine ro_i (b2i (sX8_hasWork (M.1.2 1) p1)) (run_c (va_runS (As := [.ref (w 1), .int p1]) (rest := [.ref (w 0)]) ⟨hx, hb, hml, hown, hts⟩ (c_X8_hasWork l D cs (w 1) (M.1.2 1) p1) (cwS 2 hts (good_S w_ml_X8_243 w_st_X8_hasWork w_in_X8 w_co_X8_hasWork) rfl rfl rfl ⟨rfl, hd_X8_hasWork⟩ ⟨Nat.le_of_ble_eq_true rfl, Nat.le_of_ble_eq_true rfl⟩) (pe_S (hP.sub (ws' := rowW cs (w 1) (M.1.2 1)) [1] rfl) hE) rfl rfl hl.1 rfl (lv_room (Nat.le_of_ble_eq_true rfl)) dX8_work_6 ⟨Nat.zero_le _, Nat.zero_le _⟩)) ?_
  refine join_i (J := 33) (ls := ls) (rest := [.ref (w 0)]) ((if (sX8_hasWork (M.1.2 1) p1) = true then (if (sX8_in p2.toInt64 (0 : Int64) (4 : Int64)) = true then (0 : Int32) else (2 : Int32)) else (1 : Int32))) ?_ (fun hJ => ?_)
  · refine w_b (refB (if (sX8_hasWork (M.1.2 1) p1) = true then (if (sX8_in p2.toInt64 (0 : Int64) (4 : Int64)) = true then (0 : Int32) else (2 : Int32)) else (1 : Int32)), (msS M 0 (if (sX8_hasWork (M.1.2 1) p1) = true then (if (sX8_in p2.toInt64 (0 : Int64) (4 : Int64)) = true then (0 : Int32) else (2 : Int32)) else (1 : Int32)))) (va_runV (As := [.int (if (sX8_hasWork (M.1.2 1) p1) = true then (if (sX8_in p2.toInt64 (0 : Int64) (4 : Int64)) = true then (0 : Int32) else (2 : Int32)) else (1 : Int32))]) (rest := []) ⟨hx, hb, hml, hown, hts⟩ (c_X8_refused l D cs w M (if (sX8_hasWork (M.1.2 1) p1) = true then (if (sX8_in p2.toInt64 (0 : Int64) (4 : Int64)) = true then (0 : Int32) else (2 : Int32)) else (1 : Int32)) hd) (cwV 1 hts (good_V w_ml_X8_105 w_im_X8_refused w_se_X8_refused w_in_X8 w_co_X8_refused) rfl rfl rfl ⟨rfl, hd_X8_refused⟩ ⟨Nat.le_of_ble_eq_true rfl, Nat.le_of_ble_eq_true rfl⟩) (pe_W (C := RX8) (T := TX8) (N := 14) (ci := 8) (q0 := 0) hP hE rfl rfl) rfl rfl hl.1 rfl (lv_room (Nat.le_of_ble_eq_true rfl)) dX8_work_33 ⟨Nat.zero_le _, Nat.zero_le _⟩) hS (fun _ _ h => h) (fun _ h => h) (fun t locs hB hz hk hS => ?_)
    have hP : va_P D vwC (mW cs w (msS M 0 (if (sX8_hasWork (M.1.2 1) p1) = true then (if (sX8_in p2.toInt64 (0 : Int64) (4 : Int64)) = true then (0 : Int32) else (2 : Int32)) else (1 : Int32)))) t.heap := hB
    refine lv_if_eq (tgt := 41) hx hb dX8_work_36 (by decide) (fun c36 => ?_) (fun c36 => ?_)
    · have c36 := b2i_f c36
      have hv := (if_neg c36).symm.trans hv
      have f1 := ift (by decide) (rf0 c36)
      have f2 := hasW_t hv0.2.2.1.1 f1.1
      have f3 := f2.v hv0
      refine lv_iload_n hx hb dX8_work_41 rfl (lv_at hl 2 rfl) ?_
      by_cases c42_0 : p2 = 0
      · have hv := (if_pos c42_0).symm.trans hv
        refine lv_tableIn (off := 30) (tgt := 72) hx hb dX8_work_42 (by rw [c42_0]; decide) (by rw [c42_0]; decide) (by rw [c42_0]; rfl) (by decide) ?_
        refine lv_aload_n hx hb dX8_work_72 rfl (lv_at hl 0 rfl) ?_
        refine va_get (D := D) (ci := 8) (v := .ref (w 1)) (C := RX8) (T := TX8) (N := 14) hx hb hts iw_X8 hown hK hP 0 rfl rfl 1 (by decide) (hts _ w_fl_X8_7) (fun _ h9 => h9) rfl dX8_work_73 ?_
        refine lv_sipush (v := 294) hx hb dX8_work_76 (by decide) ?_
        refine lv_iload_n hx hb dX8_work_79 rfl (lv_at hl 1 rfl) ?_
        refine lv_iadd hx hb dX8_work_80 ?_
        refine va_iald (cA := cs 0) (n := 414) (f := (M.1.2 1)) hx hb hK hP 1 0 rfl rfl (vp_off (K := 294) rfl (by assumption) (by decide) (by decide)) dX8_work_81 ?_
        exact W.iret (v := (M.1.2 1) (294 + p1).toNatClampNeg) hx hb hr (fun t ht hW => ⟨⟨(M.1.2 1) (294 + p1).toNatClampNeg, (msS M 0 (if (sX8_hasWork (M.1.2 1) p1) = true then (if (sX8_in p2.toInt64 (0 : Int64) (4 : Int64)) = true then (0 : Int32) else (2 : Int32)) else (1 : Int32))), rfl, pair_eq hv, pw ht hP⟩, hS.F ht⟩) hS.2.2 dX8_work_82 (hlocks := hlocks)
      · have hv := (if_neg c42_0).symm.trans hv
        by_cases c42_1 : p2 = 1
        · have hv := (if_pos c42_1).symm.trans hv
          refine lv_tableIn (off := 41) (tgt := 83) hx hb dX8_work_42 (by rw [c42_1]; decide) (by rw [c42_1]; decide) (by rw [c42_1]; rfl) (by decide) ?_
          refine lv_aload_n hx hb dX8_work_83 rfl (lv_at hl 0 rfl) ?_
          refine va_get (D := D) (ci := 8) (v := .ref (w 1)) (C := RX8) (T := TX8) (N := 14) hx hb hts iw_X8 hown hK hP 0 rfl rfl 1 (by decide) (hts _ w_fl_X8_7) (fun _ h9 => h9) rfl dX8_work_84 ?_
          refine lv_sipush (v := 324) hx hb dX8_work_87 (by decide) ?_
          refine lv_iload_n hx hb dX8_work_90 rfl (lv_at hl 1 rfl) ?_
          refine lv_iadd hx hb dX8_work_91 ?_
          refine va_iald (cA := cs 0) (n := 414) (f := (M.1.2 1)) hx hb hK hP 1 0 rfl rfl (vp_off (K := 324) rfl (by assumption) (by decide) (by decide)) dX8_work_92 ?_
          exact W.iret (v := (M.1.2 1) (324 + p1).toNatClampNeg) hx hb hr (fun t ht hW => ⟨⟨(M.1.2 1) (324 + p1).toNatClampNeg, (msS M 0 (if (sX8_hasWork (M.1.2 1) p1) = true then (if (sX8_in p2.toInt64 (0 : Int64) (4 : Int64)) = true then (0 : Int32) else (2 : Int32)) else (1 : Int32))), rfl, pair_eq hv, pw ht hP⟩, hS.F ht⟩) hS.2.2 dX8_work_93 (hlocks := hlocks)
        · have hv := (if_neg c42_1).symm.trans hv
          by_cases c42_2 : p2 = 2
          · have hv := (if_pos c42_2).symm.trans hv
            refine lv_tableIn (off := 52) (tgt := 94) hx hb dX8_work_42 (by rw [c42_2]; decide) (by rw [c42_2]; decide) (by rw [c42_2]; rfl) (by decide) ?_
            refine lv_aload_n hx hb dX8_work_94 rfl (lv_at hl 0 rfl) ?_
            refine va_get (D := D) (ci := 8) (v := .ref (w 1)) (C := RX8) (T := TX8) (N := 14) hx hb hts iw_X8 hown hK hP 0 rfl rfl 1 (by decide) (hts _ w_fl_X8_7) (fun _ h9 => h9) rfl dX8_work_95 ?_
            refine lv_sipush (v := 354) hx hb dX8_work_98 (by decide) ?_
            refine lv_iload_n hx hb dX8_work_101 rfl (lv_at hl 1 rfl) ?_
            refine lv_iadd hx hb dX8_work_102 ?_
            refine va_iald (cA := cs 0) (n := 414) (f := (M.1.2 1)) hx hb hK hP 1 0 rfl rfl (vp_off (K := 354) rfl (by assumption) (by decide) (by decide)) dX8_work_103 ?_
            exact W.iret (v := (M.1.2 1) (354 + p1).toNatClampNeg) hx hb hr (fun t ht hW => ⟨⟨(M.1.2 1) (354 + p1).toNatClampNeg, (msS M 0 (if (sX8_hasWork (M.1.2 1) p1) = true then (if (sX8_in p2.toInt64 (0 : Int64) (4 : Int64)) = true then (0 : Int32) else (2 : Int32)) else (1 : Int32))), rfl, pair_eq hv, pw ht hP⟩, hS.F ht⟩) hS.2.2 dX8_work_104 (hlocks := hlocks)
          · have hv := (if_neg c42_2).symm.trans hv
            by_cases c42_3 : p2 = 3
            · have hv := (if_pos c42_3).symm.trans hv
              refine lv_tableIn (off := 63) (tgt := 105) hx hb dX8_work_42 (by rw [c42_3]; decide) (by rw [c42_3]; decide) (by rw [c42_3]; rfl) (by decide) ?_
              refine lv_aload_n hx hb dX8_work_105 rfl (lv_at hl 0 rfl) ?_
              refine va_get (D := D) (ci := 8) (v := .ref (w 1)) (C := RX8) (T := TX8) (N := 14) hx hb hts iw_X8 hown hK hP 0 rfl rfl 1 (by decide) (hts _ w_fl_X8_7) (fun _ h9 => h9) rfl dX8_work_106 ?_
              refine lv_sipush (v := 384) hx hb dX8_work_109 (by decide) ?_
              refine lv_iload_n hx hb dX8_work_112 rfl (lv_at hl 1 rfl) ?_
              refine lv_iadd hx hb dX8_work_113 ?_
              refine va_iald (cA := cs 0) (n := 414) (f := (M.1.2 1)) hx hb hK hP 1 0 rfl rfl (vp_off (K := 384) rfl (by assumption) (by decide) (by decide)) dX8_work_114 ?_
              exact W.iret (v := (M.1.2 1) (384 + p1).toNatClampNeg) hx hb hr (fun t ht hW => ⟨⟨(M.1.2 1) (384 + p1).toNatClampNeg, (msS M 0 (if (sX8_hasWork (M.1.2 1) p1) = true then (if (sX8_in p2.toInt64 (0 : Int64) (4 : Int64)) = true then (0 : Int32) else (2 : Int32)) else (1 : Int32))), rfl, pair_eq hv, pw ht hP⟩, hS.F ht⟩) hS.2.2 dX8_work_115 (hlocks := hlocks)
            · have hv := (if_neg c42_3).symm.trans hv
              have e0 : p2.toInt ≠ 0 := sw_ne c42_0
              have e1 : p2.toInt ≠ 1 := sw_ne c42_1
              have e2 : p2.toInt ≠ 2 := sw_ne c42_2
              have e3 : p2.toInt ≠ 3 := sw_ne c42_3
              refine lv_tableOut (tgt := 116) hx hb dX8_work_42 (by omega) (by decide) ?_
              refine lv_aload_n hx hb dX8_work_116 rfl (lv_at hl 0 rfl) ?_
              refine va_get (D := D) (ci := 8) (v := .ref (w 1)) (C := RX8) (T := TX8) (N := 14) hx hb hts iw_X8 hown hK hP 0 rfl rfl 1 (by decide) (hts _ w_fl_X8_7) (fun _ h9 => h9) rfl dX8_work_117 ?_
              refine lv_iload_n hx hb dX8_work_120 rfl (lv_at hl 1 rfl) ?_
              refine ro_i (b2i (sX8_isWrong (M.1.2 1) p1)) (run_c (va_runS (As := [.ref (w 1), .int p1]) (rest := []) ⟨hx, hb, hml, hown, hts⟩ (c_X8_isWrong l D cs (w 1) (M.1.2 1) p1 hv0 f2) (cwS 2 hts (good_S w_ml_X8_81 w_st_X8_isWrong w_in_X8 w_co_X8_isWrong) rfl rfl rfl ⟨rfl, hd_X8_isWrong⟩ ⟨Nat.le_of_ble_eq_true rfl, Nat.le_of_ble_eq_true rfl⟩) (pe_S (hP.sub (ws' := rowW cs (w 1) (M.1.2 1)) [1] rfl) hE) rfl rfl hl.1 rfl (lv_room (Nat.le_of_ble_eq_true rfl)) dX8_work_121 ⟨Nat.zero_le _, Nat.zero_le _⟩)) ?_
              refine join_i (J := 132) (ls := ls) (rest := []) (b2i (if (sX8_isWrong (M.1.2 1) p1) = true then true else false)) ?_ (fun hJ => ?_)
              · exact W.iret (v := b2i (if (sX8_isWrong (M.1.2 1) p1) = true then true else false)) hx hb hr (fun t ht hW => ⟨⟨b2i (if (sX8_isWrong (M.1.2 1) p1) = true then true else false), (msS M 0 (if (sX8_hasWork (M.1.2 1) p1) = true then (if (sX8_in p2.toInt64 (0 : Int64) (4 : Int64)) = true then (0 : Int32) else (2 : Int32)) else (1 : Int32))), rfl, pair_eq hv, pw ht hP⟩, hS.F ht⟩) hS.2.2 dX8_work_132 (hlocks := hlocks)
              · refine lv_if_eq (tgt := 131) hx hb dX8_work_124 (by decide) (fun c124 => ?_) (fun c124 => ?_)
                · have c124 := b2i_f c124
                  refine lv_iconst (v := 0) hx hb dX8_work_131 (by decide) ?_
                  exact hJ _ (congrArg b2i ((if_neg c124).trans rfl))
                · have c124 := b2i_t c124
                  refine lv_iconst (v := 1) hx hb dX8_work_127 (by decide) ?_
                  refine lv_goto (tgt := 132) hx hb dX8_work_128 (by decide) ?_
                  exact hJ _ (congrArg b2i ((if_pos c124).trans rfl))
    · have c36 := b2i_t c36
      have hv := (if_pos c36).symm.trans hv
      refine lv_iconst (v := 0) hx hb dX8_work_39 (by decide) ?_
      exact W.iret (v := 0) hx hb hr (fun t ht hW => ⟨⟨0, (msS M 0 (if (sX8_hasWork (M.1.2 1) p1) = true then (if (sX8_in p2.toInt64 (0 : Int64) (4 : Int64)) = true then (0 : Int32) else (2 : Int32)) else (1 : Int32))), rfl, pair_eq hv, pw ht hP⟩, hS.F ht⟩) hS.2.2 dX8_work_40 (hlocks := hlocks)
  · refine lv_if_ne (tgt := 16) hx hb dX8_work_9 (by decide) (fun c9 => ?_) (fun c9 => ?_)
    · have c9 := b2i_t c9
      refine lv_iload_n hx hb dX8_work_16 rfl (lv_at hl 2 rfl) ?_
      refine lv_i2l hx hb dX8_work_17 rfl ?_
      refine lv_lconst (v := 0) hx hb dX8_work_18 (by decide) ?_
      refine lv_ldc2 (v := 4) hx hb hown (hts _ w_cn_X8_246) dX8_work_19 ?_
      refine ro_i (b2i (sX8_in p2.toInt64 (0 : Int64) (4 : Int64))) (run_c (va_runS (As := [.long p2.toInt64, .long (0 : Int64), .long (4 : Int64)]) (rest := [.ref (w 0)]) ⟨hx, hb, hml, hown, hts⟩ (c_X8_in l D cs p2.toInt64 (0 : Int64) (4 : Int64)) (cwS 3 hts (good_S w_ml_X8_42 w_st_X8_in w_in_X8 w_co_X8_in) rfl rfl rfl ⟨rfl, hd_X8_in⟩ ⟨Nat.le_of_ble_eq_true rfl, Nat.le_of_ble_eq_true rfl⟩) (pe_S (p_nil D _) hE) rfl rfl hl.1 rfl (lv_room (Nat.le_of_ble_eq_true rfl)) dX8_work_22 ⟨Nat.zero_le _, Nat.zero_le _⟩)) ?_
      refine lv_if_ne (tgt := 32) hx hb dX8_work_25 (by decide) (fun c25 => ?_) (fun c25 => ?_)
      · have c25 := b2i_t c25
        refine lv_iconst (v := 0) hx hb dX8_work_32 (by decide) ?_
        exact hJ _ ((if_pos c9).trans ((if_pos c25).trans rfl))
      · have c25 := b2i_f c25
        refine lv_iconst (v := 2) hx hb dX8_work_28 (by decide) ?_
        refine lv_goto (tgt := 33) hx hb dX8_work_29 (by decide) ?_
        exact hJ _ ((if_pos c9).trans ((if_neg c25).trans rfl))
    · have c9 := b2i_f c9
      refine lv_iconst (v := 1) hx hb dX8_work_12 (by decide) ?_
      refine lv_goto (tgt := 33) hx hb dX8_work_13 (by decide) ?_
      exact hJ _ ((if_neg c9).trans rfl)
theorem hd_X8_setting : yX8_setting.cls ≠ "java/lang/invoke/MethodHandle" ∧ yX8_setting.cls ≠ "java/lang/invoke/VarHandle" ∧ (parseMethodDescriptor yX8_setting.desc).map (fun d => d.parameters.length) = some 1 := by decide +kernel
def sX8_setting (M : MS) (p1 : Int32) : Int32 × MS := (if (refB (b2i (if (sX8_in p1.toInt64 (0 : Int64) (2 : Int64)) = true then false else true))) = true then (0, (msS M 0 (b2i (if (sX8_in p1.toInt64 (0 : Int64) (2 : Int64)) = true then false else true)))) else ((M.1.2 1) (5 + p1).toNatClampNeg, (msS M 0 (b2i (if (sX8_in p1.toInt64 (0 : Int64) (2 : Int64)) = true then false else true)))))
set_option maxHeartbeats 4000000 in
set_option maxRecDepth 100000 in
theorem c_X8_setting (l : Launch) (D : va_G) (cs : Nat → ClassId) (w : Nat → Nat) (M : MS) (p1 : Int32) (hd : mD w) (hv0 : MV (M.1.2 1)) : Met l yX8_setting (wc yX8_setting cX8_setting 2 (some .int)) ({ frames := 1, cells := 0, slots := 0, locals := 25 } : Room) (va_Pc [.ref (w 0), .int p1] (PE D cs (mW cs w M))) (va_Qi (fun (r9 : Int32) (u : MS) => r9 = (sX8_setting M p1).1 ∧ u = (sX8_setting M p1).2) (fun u t => va_P D vwC (mW cs w u) t.heap) (mA w)) 0 0 (mA w) := by
  obtain ⟨v, hv⟩ : ∃ v, sX8_setting M p1 = v := ⟨_, rfl⟩
  rw [hv]
  refine met_o (lv := [(0, .ref (w 0)), (1, .int p1)]) (by decide) (Nat.le_of_ble_eq_true rfl) rfl ?_
  intro p e s m args below meth c ls hx hb hr hml hts hown hlocks hin hP hE hl
  have hown : s.vm.findClass RX8 = some m.cls := hown
  have hK := hE.1
  have hP : va_P D vwC (mW cs w M) s.heap := hP
  have hS : va_S (mA w) s.heap s.heap [] := va_S.rf
  unfold sX8_setting at hv
  refine lv_aload_n hx hb dX8_setting_0 rfl (lv_at hl 0 rfl) ?_
  refine lv_iload_n hx hb dX8_setting_1 rfl (lv_at hl 1 rfl) ?_
  refine lv_i2l hx hb dX8_setting_2 rfl ?_
  refine lv_lconst (v := 0) hx hb dX8_setting_3 (by decide) ?_
  refine lv_ldc2 (v := 2) hx hb hown (hts _ w_cn_X8_50) dX8_setting_4 ?_
  refine ro_i (b2i (sX8_in p1.toInt64 (0 : Int64) (2 : Int64))) (run_c (va_runS (As := [.long p1.toInt64, .long (0 : Int64), .long (2 : Int64)]) (rest := [.ref (w 0)]) ⟨hx, hb, hml, hown, hts⟩ (c_X8_in l D cs p1.toInt64 (0 : Int64) (2 : Int64)) (cwS 3 hts (good_S w_ml_X8_42 w_st_X8_in w_in_X8 w_co_X8_in) rfl rfl rfl ⟨rfl, hd_X8_in⟩ ⟨Nat.le_of_ble_eq_true rfl, Nat.le_of_ble_eq_true rfl⟩) (pe_S (p_nil D _) hE) rfl rfl hl.1 rfl (lv_room (Nat.le_of_ble_eq_true rfl)) dX8_setting_7 ⟨Nat.zero_le _, Nat.zero_le _⟩)) ?_
  refine join_i (J := 18) (ls := ls) (rest := [.ref (w 0)]) (b2i (if (sX8_in p1.toInt64 (0 : Int64) (2 : Int64)) = true then false else true)) ?_ (fun hJ => ?_)
  · refine w_b (refB (b2i (if (sX8_in p1.toInt64 (0 : Int64) (2 : Int64)) = true then false else true)), (msS M 0 (b2i (if (sX8_in p1.toInt64 (0 : Int64) (2 : Int64)) = true then false else true)))) (va_runV (As := [.int (b2i (if (sX8_in p1.toInt64 (0 : Int64) (2 : Int64)) = true then false else true))]) (rest := []) ⟨hx, hb, hml, hown, hts⟩ (c_X8_refused l D cs w M (b2i (if (sX8_in p1.toInt64 (0 : Int64) (2 : Int64)) = true then false else true)) hd) (cwV 1 hts (good_V w_ml_X8_105 w_im_X8_refused w_se_X8_refused w_in_X8 w_co_X8_refused) rfl rfl rfl ⟨rfl, hd_X8_refused⟩ ⟨Nat.le_of_ble_eq_true rfl, Nat.le_of_ble_eq_true rfl⟩) (pe_W (C := RX8) (T := TX8) (N := 14) (ci := 8) (q0 := 0) hP hE rfl rfl) rfl rfl hl.1 rfl (lv_room (Nat.le_of_ble_eq_true rfl)) dX8_setting_18 ⟨Nat.zero_le _, Nat.zero_le _⟩) hS (fun _ _ h => h) (fun _ h => h) (fun t locs hB hz hk hS => ?_)
    have hP : va_P D vwC (mW cs w (msS M 0 (b2i (if (sX8_in p1.toInt64 (0 : Int64) (2 : Int64)) = true then false else true)))) t.heap := hB
    refine lv_if_eq (tgt := 26) hx hb dX8_setting_21 (by decide) (fun c21 => ?_) (fun c21 => ?_)
    · have c21 := b2i_f c21
      have hv := (if_neg c21).symm.trans hv
      have f1 := iftb (b2i_f (rf0 c21))
      have f2 := in32 (n := 3) rfl f1.1
      refine lv_aload_n hx hb dX8_setting_26 rfl (lv_at hl 0 rfl) ?_
      refine va_get (D := D) (ci := 8) (v := .ref (w 1)) (C := RX8) (T := TX8) (N := 14) hx hb hts iw_X8 hown hK hP 0 rfl rfl 1 (by decide) (hts _ w_fl_X8_7) (fun _ h9 => h9) rfl dX8_setting_27 ?_
      refine lv_iconst (v := 5) hx hb dX8_setting_30 (by decide) ?_
      refine lv_iload_n hx hb dX8_setting_31 rfl (lv_at hl 1 rfl) ?_
      refine lv_iadd hx hb dX8_setting_32 ?_
      refine va_iald (cA := cs 0) (n := 414) (f := (M.1.2 1)) hx hb hK hP 1 0 rfl rfl (vp_off (K := 5) rfl (by assumption) (by decide) (by decide)) dX8_setting_33 ?_
      exact W.iret (v := (M.1.2 1) (5 + p1).toNatClampNeg) hx hb hr (fun t ht hW => ⟨⟨(M.1.2 1) (5 + p1).toNatClampNeg, (msS M 0 (b2i (if (sX8_in p1.toInt64 (0 : Int64) (2 : Int64)) = true then false else true))), rfl, pair_eq hv, pw ht hP⟩, hS.F ht⟩) hS.2.2 dX8_setting_34 (hlocks := hlocks)
    · have c21 := b2i_t c21
      have hv := (if_pos c21).symm.trans hv
      refine lv_iconst (v := 0) hx hb dX8_setting_24 (by decide) ?_
      exact W.iret (v := 0) hx hb hr (fun t ht hW => ⟨⟨0, (msS M 0 (b2i (if (sX8_in p1.toInt64 (0 : Int64) (2 : Int64)) = true then false else true))), rfl, pair_eq hv, pw ht hP⟩, hS.F ht⟩) hS.2.2 dX8_setting_25 (hlocks := hlocks)
  · refine lv_if_eq (tgt := 17) hx hb dX8_setting_10 (by decide) (fun c10 => ?_) (fun c10 => ?_)
    · have c10 := b2i_f c10
      refine lv_iconst (v := 1) hx hb dX8_setting_17 (by decide) ?_
      exact hJ _ (congrArg b2i ((if_neg c10).trans rfl))
    · have c10 := b2i_t c10
      refine lv_iconst (v := 0) hx hb dX8_setting_13 (by decide) ?_
      refine lv_goto (tgt := 18) hx hb dX8_setting_14 (by decide) ?_
      exact hJ _ (congrArg b2i ((if_pos c10).trans rfl))
theorem hd_X8_truePrint : yX8_truePrint.cls ≠ "java/lang/invoke/MethodHandle" ∧ yX8_truePrint.cls ≠ "java/lang/invoke/VarHandle" ∧ (parseMethodDescriptor yX8_truePrint.desc).map (fun d => d.parameters.length) = some 2 := by decide +kernel
def sX8_truePrint (M : MS) (p1 : Int32) (p2 : Int32) : Int32 × MS := (if (refB (b2i (if (sX8_isSite p1) = true then (if (sX8_hasSheet (M.1.2 1) p2) = true then false else true) else true))) = true then (0, (msS M 0 (b2i (if (sX8_isSite p1) = true then (if (sX8_hasSheet (M.1.2 1) p2) = true then false else true) else true)))) else (sX8_first (M.1.2 1) p1 p2, (msS M 0 (b2i (if (sX8_isSite p1) = true then (if (sX8_hasSheet (M.1.2 1) p2) = true then false else true) else true)))))
set_option maxHeartbeats 4000000 in
set_option maxRecDepth 100000 in
theorem c_X8_truePrint (l : Launch) (D : va_G) (cs : Nat → ClassId) (w : Nat → Nat) (M : MS) (p1 : Int32) (p2 : Int32) (hd : mD w) (hv0 : MV (M.1.2 1)) : Met l yX8_truePrint (wc yX8_truePrint cX8_truePrint 3 (some .int)) ({ frames := 4, cells := 0, slots := 0, locals := 87 } : Room) (va_Pc [.ref (w 0), .int p1, .int p2] (PE D cs (mW cs w M))) (va_Qi (fun (r9 : Int32) (u : MS) => r9 = (sX8_truePrint M p1 p2).1 ∧ u = (sX8_truePrint M p1 p2).2) (fun u t => va_P D vwC (mW cs w u) t.heap) (mA w)) 0 0 (mA w) := by
  obtain ⟨v, hv⟩ : ∃ v, sX8_truePrint M p1 p2 = v := ⟨_, rfl⟩
  rw [hv]
  refine met_o (lv := [(0, .ref (w 0)), (1, .int p1), (2, .int p2)]) (by decide) (Nat.le_of_ble_eq_true rfl) rfl ?_
  intro p e s m args below meth c ls hx hb hr hml hts hown hlocks hin hP hE hl
  have hown : s.vm.findClass RX8 = some m.cls := hown
  have hK := hE.1
  have hP : va_P D vwC (mW cs w M) s.heap := hP
  have hS : va_S (mA w) s.heap s.heap [] := va_S.rf
  unfold sX8_truePrint at hv
  refine lv_aload_n hx hb dX8_truePrint_0 rfl (lv_at hl 0 rfl) ?_
  refine lv_iload_n hx hb dX8_truePrint_1 rfl (lv_at hl 1 rfl) ?_
  refine ro_i (b2i (sX8_isSite p1)) (run_c (va_runS (As := [.int p1]) (rest := [.ref (w 0)]) ⟨hx, hb, hml, hown, hts⟩ (c_X8_isSite l D cs p1) (cwS 1 hts (good_S w_ml_X8_257 w_st_X8_isSite w_in_X8 w_co_X8_isSite) rfl rfl rfl ⟨rfl, hd_X8_isSite⟩ ⟨Nat.le_of_ble_eq_true rfl, Nat.le_of_ble_eq_true rfl⟩) (pe_S (p_nil D _) hE) rfl rfl hl.1 rfl (lv_room (Nat.le_of_ble_eq_true rfl)) dX8_truePrint_2 ⟨Nat.zero_le _, Nat.zero_le _⟩)) ?_
  refine join_i (J := 24) (ls := ls) (rest := [.ref (w 0)]) (b2i (if (sX8_isSite p1) = true then (if (sX8_hasSheet (M.1.2 1) p2) = true then false else true) else true)) ?_ (fun hJ => ?_)
  · refine w_b (refB (b2i (if (sX8_isSite p1) = true then (if (sX8_hasSheet (M.1.2 1) p2) = true then false else true) else true)), (msS M 0 (b2i (if (sX8_isSite p1) = true then (if (sX8_hasSheet (M.1.2 1) p2) = true then false else true) else true)))) (va_runV (As := [.int (b2i (if (sX8_isSite p1) = true then (if (sX8_hasSheet (M.1.2 1) p2) = true then false else true) else true))]) (rest := []) ⟨hx, hb, hml, hown, hts⟩ (c_X8_refused l D cs w M (b2i (if (sX8_isSite p1) = true then (if (sX8_hasSheet (M.1.2 1) p2) = true then false else true) else true)) hd) (cwV 1 hts (good_V w_ml_X8_105 w_im_X8_refused w_se_X8_refused w_in_X8 w_co_X8_refused) rfl rfl rfl ⟨rfl, hd_X8_refused⟩ ⟨Nat.le_of_ble_eq_true rfl, Nat.le_of_ble_eq_true rfl⟩) (pe_W (C := RX8) (T := TX8) (N := 14) (ci := 8) (q0 := 0) hP hE rfl rfl) rfl rfl hl.1 rfl (lv_room (Nat.le_of_ble_eq_true rfl)) dX8_truePrint_24 ⟨Nat.zero_le _, Nat.zero_le _⟩) hS (fun _ _ h => h) (fun _ h => h) (fun t locs hB hz hk hS => ?_)
    have hP : va_P D vwC (mW cs w (msS M 0 (b2i (if (sX8_isSite p1) = true then (if (sX8_hasSheet (M.1.2 1) p2) = true then false else true) else true)))) t.heap := hB
    refine lv_if_eq (tgt := 32) hx hb dX8_truePrint_27 (by decide) (fun c27 => ?_) (fun c27 => ?_)
    · have c27 := b2i_f c27
      have hv := (if_neg c27).symm.trans hv
      refine lv_aload_n hx hb dX8_truePrint_32 rfl (lv_at hl 0 rfl) ?_
      refine va_get (D := D) (ci := 8) (v := .ref (w 1)) (C := RX8) (T := TX8) (N := 14) hx hb hts iw_X8 hown hK hP 0 rfl rfl 1 (by decide) (hts _ w_fl_X8_7) (fun _ h9 => h9) rfl dX8_truePrint_33 ?_
      refine lv_iload_n hx hb dX8_truePrint_36 rfl (lv_at hl 1 rfl) ?_
      refine lv_iload_n hx hb dX8_truePrint_37 rfl (lv_at hl 2 rfl) ?_
      refine ro_i (sX8_first (M.1.2 1) p1 p2) (run_c (va_runS (As := [.ref (w 1), .int p1, .int p2]) (rest := []) ⟨hx, hb, hml, hown, hts⟩ (c_X8_first l D cs (w 1) (M.1.2 1) p1 p2 hv0.2.1) (cwS 3 hts (good_S w_ml_X8_280 w_st_X8_first w_in_X8 w_co_X8_first) rfl rfl rfl ⟨rfl, hd_X8_first⟩ ⟨Nat.le_of_ble_eq_true rfl, Nat.le_of_ble_eq_true rfl⟩) (pe_S (hP.sub (ws' := rowW cs (w 1) (M.1.2 1)) [1] rfl) hE) rfl rfl hl.1 rfl (lv_room (Nat.le_of_ble_eq_true rfl)) dX8_truePrint_38 ⟨Nat.zero_le _, Nat.zero_le _⟩)) ?_
      exact W.iret (v := sX8_first (M.1.2 1) p1 p2) hx hb hr (fun t ht hW => ⟨⟨sX8_first (M.1.2 1) p1 p2, (msS M 0 (b2i (if (sX8_isSite p1) = true then (if (sX8_hasSheet (M.1.2 1) p2) = true then false else true) else true))), rfl, pair_eq hv, pw ht hP⟩, hS.F ht⟩) hS.2.2 dX8_truePrint_41 (hlocks := hlocks)
    · have c27 := b2i_t c27
      have hv := (if_pos c27).symm.trans hv
      refine lv_iconst (v := 0) hx hb dX8_truePrint_30 (by decide) ?_
      exact W.iret (v := 0) hx hb hr (fun t ht hW => ⟨⟨0, (msS M 0 (b2i (if (sX8_isSite p1) = true then (if (sX8_hasSheet (M.1.2 1) p2) = true then false else true) else true))), rfl, pair_eq hv, pw ht hP⟩, hS.F ht⟩) hS.2.2 dX8_truePrint_31 (hlocks := hlocks)
  · refine lv_if_eq (tgt := 23) hx hb dX8_truePrint_5 (by decide) (fun c5 => ?_) (fun c5 => ?_)
    · have c5 := b2i_f c5
      refine lv_iconst (v := 1) hx hb dX8_truePrint_23 (by decide) ?_
      exact hJ _ (congrArg b2i ((if_neg c5).trans rfl))
    · have c5 := b2i_t c5
      refine lv_aload_n hx hb dX8_truePrint_8 rfl (lv_at hl 0 rfl) ?_
      refine va_get (D := D) (ci := 8) (v := .ref (w 1)) (C := RX8) (T := TX8) (N := 14) hx hb hts iw_X8 hown hK hP 0 rfl rfl 1 (by decide) (hts _ w_fl_X8_7) (fun _ h9 => h9) rfl dX8_truePrint_9 ?_
      refine lv_iload_n hx hb dX8_truePrint_12 rfl (lv_at hl 2 rfl) ?_
      refine ro_i (b2i (sX8_hasSheet (M.1.2 1) p2)) (run_c (va_runS (As := [.ref (w 1), .int p2]) (rest := [.ref (w 0)]) ⟨hx, hb, hml, hown, hts⟩ (c_X8_hasSheet l D cs (w 1) (M.1.2 1) p2) (cwS 2 hts (good_S w_ml_X8_139 w_st_X8_hasSheet w_in_X8 w_co_X8_hasSheet) rfl rfl rfl ⟨rfl, hd_X8_hasSheet⟩ ⟨Nat.le_of_ble_eq_true rfl, Nat.le_of_ble_eq_true rfl⟩) (pe_S (hP.sub (ws' := rowW cs (w 1) (M.1.2 1)) [1] rfl) hE) rfl rfl hl.1 rfl (lv_room (Nat.le_of_ble_eq_true rfl)) dX8_truePrint_13 ⟨Nat.zero_le _, Nat.zero_le _⟩)) ?_
      refine lv_if_eq (tgt := 23) hx hb dX8_truePrint_16 (by decide) (fun c16 => ?_) (fun c16 => ?_)
      · have c16 := b2i_f c16
        refine lv_iconst (v := 1) hx hb dX8_truePrint_23 (by decide) ?_
        exact hJ _ (congrArg b2i ((if_pos c5).trans ((if_neg c16).trans rfl)))
      · have c16 := b2i_t c16
        refine lv_iconst (v := 0) hx hb dX8_truePrint_19 (by decide) ?_
        refine lv_goto (tgt := 24) hx hb dX8_truePrint_20 (by decide) ?_
        exact hJ _ (congrArg b2i ((if_pos c5).trans ((if_pos c16).trans rfl)))
