/-- what a trial leaves as it was -/
def TR (M N : MS) : Prop := MV (N.1.2 2) ∧ N.1.1 = M.1.1 ∧ N.2 = M.2 ∧ ∀ j : Nat, j ≠ 2 → N.1.2 j = M.1.2 j
theorem TR.rf {M : MS} (h : MV (M.1.2 2)) : TR M M := ⟨h, rfl, rfl, fun _ _ => rfl⟩
theorem TR.tr {M N K : MS} (h : TR M N) (h' : TR N K) : TR M K := ⟨h'.1, h'.2.1.trans h.2.1, h'.2.2.1.trans h.2.2.1, fun j a => (h'.2.2.2 j a).trans (h.2.2.2 j a)⟩
theorem TR_row {M : MS} {f : Nat → Int32} (hf : MV f) : TR M (msA M 2 f) := ⟨hf, rfl, rfl, fun _ a => if_neg a⟩
theorem tr_if2 {α : Type} {M : MS} {c : Prop} [Decidable c] {a b : α × MS} (h1 : c → TR M a.2) (h2 : ¬ c → TR M b.2) : TR M (if c then a else b).2 := by
  by_cases h : c
  · rw [if_pos h]; exact h1 h
  · rw [if_neg h]; exact h2 h
theorem tr_if {M : MS} {c : Prop} [Decidable c] {a b : MS} (h1 : c → TR M a) (h2 : ¬ c → TR M b) : TR M (if c then a else b) := by
  by_cases h : c
  · rw [if_pos h]; exact h1 h
  · rw [if_neg h]; exact h2 h
theorem inS_copy {r r2 : Nat → Int32} {p : Int32} (h : inS r2 p) : inS (sX8_copy r r2) p := by
  unfold inS
  rw [copy_at r r2 0 (by decide)]
  exact h
theorem tens_nz {n k : Int32} (h : sX8_in n.toInt64 (1 : Int64) (3 : Int64) = true) (i0 : ¬ k < 0) (c : ¬ n ≤ k) : sX8_tens (6 * (n - 1 - k)) ≠ 0 := by
  have h1 := in_t h
  rw [Int32.toInt_toInt64] at h1
  have e1 : (1 : Int64).toInt = 1 := rfl
  have e3 : (3 : Int64).toInt = 3 := rfl
  rw [e1, e3] at h1
  have h4 : ¬ k.toInt < 0 := fun q => i0 (i32_lt.mpr q)
  have h5 : ¬ n.toInt ≤ k.toInt := fun q => c (i32_le.mpr q)
  have hn : n = 1 ∨ n = 2 ∨ n = 3 := by
    have : n.toInt = 1 ∨ n.toInt = 2 ∨ n.toInt = 3 := by omega
    rcases this with e | e | e
    · exact Or.inl (Int32.toInt_inj.mp e)
    · exact Or.inr (Or.inl (Int32.toInt_inj.mp e))
    · exact Or.inr (Or.inr (Int32.toInt_inj.mp e))
  have hk : k = 0 ∨ (k = 1 ∧ (n = 2 ∨ n = 3)) ∨ (k = 2 ∧ n = 3) := by
    have : k.toInt = 0 ∨ k.toInt = 1 ∨ k.toInt = 2 := by omega
    rcases this with e | e | e
    · exact Or.inl (Int32.toInt_inj.mp e)
    · refine Or.inr (Or.inl ⟨Int32.toInt_inj.mp e, ?_⟩)
      rcases hn with q | q | q
      · rw [q] at h5; exact absurd (show (1 : Int32).toInt ≤ k.toInt by rw [e]; decide) h5
      · exact Or.inl q
      · exact Or.inr q
    · refine Or.inr (Or.inr ⟨Int32.toInt_inj.mp e, ?_⟩)
      rcases hn with q | q | q
      · rw [q] at h5; exact absurd (show (1 : Int32).toInt ≤ k.toInt by rw [e]; decide) h5
      · rw [q] at h5; exact absurd (show (2 : Int32).toInt ≤ k.toInt by rw [e]; decide) h5
      · exact q
  rcases hk with q | ⟨q, q2 | q2⟩ | ⟨q, q2⟩
  · rw [q]
    rcases hn with q2 | q2 | q2 <;> rw [q2] <;> decide +kernel
  · rw [q, q2]; decide +kernel
  · rw [q, q2]; decide +kernel
  · rw [q, q2]; decide +kernel
theorem hd_X8_runRevise : yX8_runRevise.cls ≠ "java/lang/invoke/MethodHandle" ∧ yX8_runRevise.cls ≠ "java/lang/invoke/VarHandle" ∧ (parseMethodDescriptor yX8_runRevise.desc).map (fun d => d.parameters.length) = some 2 := by decide +kernel
def sX8_runRevise (M : MS) (p1 : Int32) (p2 : Int32) : Bool × MS := (if (if (sX8_hasSheet (M.1.2 2) p1) = true then (if (sX8_isField p2) = true then (if (sX8_canRevise (M.1.2 2) p1) = true then true else false) else false) else false) = true then ((if (((sX8_goRevise (M.1.2 2) p1 (1 <<< (p2 &&& 31)))).1) < 0 then false else true), (msA M 2 (((sX8_goRevise (M.1.2 2) p1 (1 <<< (p2 &&& 31)))).2))) else (false, M))
set_option maxHeartbeats 4000000 in
set_option maxRecDepth 100000 in
theorem c_X8_runRevise (l : Launch) (D : va_G) (cs : Nat → ClassId) (w : Nat → Nat) (M : MS) (p1 : Int32) (p2 : Int32) (hd : mD w) (hv2 : MV (M.1.2 2)) : Met l yX8_runRevise (wc yX8_runRevise cX8_runRevise 4 (some .boolean)) ({ frames := 3, cells := 0, slots := 0, locals := 66 } : Room) (va_Pc [.ref (w 0), .int p1, .int p2] (PE D cs (mW cs w M))) (va_Qi (fun (r9 : Int32) (u : MS) => r9 = b2i (sX8_runRevise M p1 p2).1 ∧ u = (sX8_runRevise M p1 p2).2) (fun u t => va_P D vwC (mW cs w u) t.heap) (mA w)) 0 0 (mA w) := by
  obtain ⟨v, hv⟩ : ∃ v, sX8_runRevise M p1 p2 = v := ⟨_, rfl⟩
  rw [hv]
  refine met_o (lv := [(0, .ref (w 0)), (1, .int p1), (2, .int p2)]) (by decide) (Nat.le_of_ble_eq_true rfl) rfl ?_
  intro p e s m args below meth c ls hx hb hr hml hts hown hlocks hin hP hE hl
  have hown : s.vm.findClass RX8 = some m.cls := hown
  have hK := hE.1
  have hP : va_P D vwC (mW cs w M) s.heap := hP
  have hS : va_S (mA w) s.heap s.heap [] := va_S.rf
  unfold sX8_runRevise at hv
  refine lv_aload_n hx hb dX8_runRevise_0 rfl (lv_at hl 0 rfl) ?_
  refine va_get (D := D) (ci := 8) (v := .ref (w 2)) (C := RX8) (T := TX8) (N := 14) hx hb hts iw_X8 hown hK hP 0 rfl rfl 2 (by decide) (hts _ w_fl_X8_13) (fun _ h9 => h9) rfl dX8_runRevise_1 ?_
  refine lv_iload_n hx hb dX8_runRevise_4 rfl (lv_at hl 1 rfl) ?_
  refine ro_i (b2i (sX8_hasSheet (M.1.2 2) p1)) (run_c (va_runS (As := [.ref (w 2), .int p1]) (rest := []) ⟨hx, hb, hml, hown, hts⟩ (c_X8_hasSheet l D cs (w 2) (M.1.2 2) p1) (cwS 2 hts (good_S w_ml_X8_139 w_st_X8_hasSheet w_in_X8 w_co_X8_hasSheet) rfl rfl rfl ⟨rfl, hd_X8_hasSheet⟩ ⟨Nat.le_of_ble_eq_true rfl, Nat.le_of_ble_eq_true rfl⟩) (pe_S (hP.sub (ws' := rowW cs (w 2) (M.1.2 2)) [2] rfl) hE) rfl rfl hl.1 rfl (lv_room (Nat.le_of_ble_eq_true rfl)) dX8_runRevise_5 ⟨Nat.zero_le _, Nat.zero_le _⟩)) ?_
  refine join_i (J := 34) (ls := ls) (rest := []) (b2i (if (sX8_hasSheet (M.1.2 2) p1) = true then (if (sX8_isField p2) = true then (if (sX8_canRevise (M.1.2 2) p1) = true then true else false) else false) else false)) ?_ (fun hJ => ?_)
  · refine lv_istore_n (lv' := [(3, .int (b2i (if (sX8_hasSheet (M.1.2 2) p1) = true then (if (sX8_isField p2) = true then (if (sX8_canRevise (M.1.2 2) p1) = true then true else false) else false) else false))), (0, .ref (w 0)), (1, .int p1), (2, .int p2)]) hx hb dX8_runRevise_34 rfl hl (by decide) rfl (fun ls hl => ?_)
    refine lv_iload_n hx hb dX8_runRevise_35 rfl (lv_at hl 0 rfl) ?_
    refine lv_if_eq (tgt := 57) hx hb dX8_runRevise_36 (by decide) (fun c36 => ?_) (fun c36 => ?_)
    · have c36 := b2i_f c36
      have hv := (if_neg c36).symm.trans hv
      refine lv_iconst (v := 0) hx hb dX8_runRevise_57 (by decide) ?_
      exact W.zret (ty := .boolean) (v := 0) hx hb hr (b2i_nar false) (fun t ht hW => ⟨⟨0, M, rfl, pairb_eq hv, pw ht hP⟩, hS.F ht⟩) hS.2.2 dX8_runRevise_58 (hlocks := hlocks)
    · have c36 := b2i_t c36
      have hv := (if_pos c36).symm.trans hv
      refine lv_aload_n hx hb dX8_runRevise_39 rfl (lv_at hl 1 rfl) ?_
      refine va_get (D := D) (ci := 8) (v := .ref (w 2)) (C := RX8) (T := TX8) (N := 14) hx hb hts iw_X8 hown hK hP 0 rfl rfl 2 (by decide) (hts _ w_fl_X8_13) (fun _ h9 => h9) rfl dX8_runRevise_40 ?_
      refine lv_iload_n hx hb dX8_runRevise_43 rfl (lv_at hl 2 rfl) ?_
      refine lv_iconst (v := 1) hx hb dX8_runRevise_44 (by decide) ?_
      refine lv_iload_n hx hb dX8_runRevise_45 rfl (lv_at hl 3 rfl) ?_
      refine lv_ishl hx hb dX8_runRevise_46 ?_
      obtain ⟨G47, hG47⟩ : ∃ G, sX8_goRevise (M.1.2 2) p1 (1 <<< (p2 &&& 31)) = G := ⟨_, rfl⟩
      have k47 := (c_X8_goRevise l D cs (w 2) (M.1.2 2) p1 (1 <<< (p2 &&& 31)) hv2 (hasS_t hv2.1.1 (rg_t c36).1))
      rw [hG47] at k47
      rw [hG47] at hv
      refine w_i (G47) (va_runS (As := [.ref (w 2), .int p1, .int (1 <<< (p2 &&& 31))]) (rest := []) ⟨hx, hb, hml, hown, hts⟩ k47 (cwS 3 hts (good_S w_ml_X8_165 w_st_X8_goRevise w_in_X8 w_co_X8_goRevise) rfl rfl rfl ⟨rfl, hd_X8_goRevise⟩ ⟨Nat.le_of_ble_eq_true rfl, Nat.le_of_ble_eq_true rfl⟩) (pe_S (hP.sub (ws' := rowW cs (w 2) (M.1.2 2)) [2] rfl) hE) rfl rfl hl.1 rfl (lv_room (Nat.le_of_ble_eq_true rfl)) dX8_runRevise_47 ⟨Nat.zero_le _, Nat.zero_le _⟩) hS (fun _ _ h => ⟨2, by decide, h⟩) (fun _ h => ⟨2, by decide, h⟩) (fun t locs hB hz hk hS => ?_)
      have hP : va_P D vwC (mW cs w (msA M 2 ((G47).2))) t.heap := m_up2 hd hP hk hB
      refine join_i (J := 58) (ls := ls) (rest := []) (b2i (if ((G47).1) < 0 then false else true)) ?_ (fun hJ => ?_)
      · exact W.zret (ty := .boolean) (v := b2i (if ((G47).1) < 0 then false else true)) hx hb hr (b2i_nar (if ((G47).1) < 0 then false else true)) (fun t ht hW => ⟨⟨b2i (if ((G47).1) < 0 then false else true), (msA M 2 ((G47).2)), rfl, pairb_eq hv, pw ht hP⟩, hS.F ht⟩) hS.2.2 dX8_runRevise_58 (hlocks := hlocks)
      · refine lv_if_lt (tgt := 57) hx hb dX8_runRevise_50 (by decide) (fun c50 => ?_) (fun c50 => ?_)
        · refine lv_iconst (v := 0) hx hb dX8_runRevise_57 (by decide) ?_
          exact hJ _ (congrArg b2i ((if_pos c50).trans rfl))
        · refine lv_iconst (v := 1) hx hb dX8_runRevise_53 (by decide) ?_
          refine lv_goto (tgt := 58) hx hb dX8_runRevise_54 (by decide) ?_
          exact hJ _ (congrArg b2i ((if_neg c50).trans rfl))
  · refine lv_if_eq (tgt := 33) hx hb dX8_runRevise_8 (by decide) (fun c8 => ?_) (fun c8 => ?_)
    · have c8 := b2i_f c8
      refine lv_iconst (v := 0) hx hb dX8_runRevise_33 (by decide) ?_
      exact hJ _ (congrArg b2i ((if_neg c8).trans rfl))
    · have c8 := b2i_t c8
      refine lv_iload_n hx hb dX8_runRevise_11 rfl (lv_at hl 2 rfl) ?_
      refine ro_i (b2i (sX8_isField p2)) (run_c (va_runS (As := [.int p2]) (rest := []) ⟨hx, hb, hml, hown, hts⟩ (c_X8_isField l D cs p2) (cwS 1 hts (good_S w_ml_X8_232 w_st_X8_isField w_in_X8 w_co_X8_isField) rfl rfl rfl ⟨rfl, hd_X8_isField⟩ ⟨Nat.le_of_ble_eq_true rfl, Nat.le_of_ble_eq_true rfl⟩) (pe_S (p_nil D _) hE) rfl rfl hl.1 rfl (lv_room (Nat.le_of_ble_eq_true rfl)) dX8_runRevise_12 ⟨Nat.zero_le _, Nat.zero_le _⟩)) ?_
      refine lv_if_eq (tgt := 33) hx hb dX8_runRevise_15 (by decide) (fun c15 => ?_) (fun c15 => ?_)
      · have c15 := b2i_f c15
        refine lv_iconst (v := 0) hx hb dX8_runRevise_33 (by decide) ?_
        exact hJ _ (congrArg b2i ((if_pos c8).trans ((if_neg c15).trans rfl)))
      · have c15 := b2i_t c15
        refine lv_aload_n hx hb dX8_runRevise_18 rfl (lv_at hl 0 rfl) ?_
        refine va_get (D := D) (ci := 8) (v := .ref (w 2)) (C := RX8) (T := TX8) (N := 14) hx hb hts iw_X8 hown hK hP 0 rfl rfl 2 (by decide) (hts _ w_fl_X8_13) (fun _ h9 => h9) rfl dX8_runRevise_19 ?_
        refine lv_iload_n hx hb dX8_runRevise_22 rfl (lv_at hl 1 rfl) ?_
        refine ro_i (b2i (sX8_canRevise (M.1.2 2) p1)) (run_c (va_runS (As := [.ref (w 2), .int p1]) (rest := []) ⟨hx, hb, hml, hown, hts⟩ (c_X8_canRevise l D cs (w 2) (M.1.2 2) p1 ((hasS_t hv2.1.1 c8).v hv2)) (cwS 2 hts (good_S w_ml_X8_162 w_st_X8_canRevise w_in_X8 w_co_X8_canRevise) rfl rfl rfl ⟨rfl, hd_X8_canRevise⟩ ⟨Nat.le_of_ble_eq_true rfl, Nat.le_of_ble_eq_true rfl⟩) (pe_S (hP.sub (ws' := rowW cs (w 2) (M.1.2 2)) [2] rfl) hE) rfl rfl hl.1 rfl (lv_room (Nat.le_of_ble_eq_true rfl)) dX8_runRevise_23 ⟨Nat.zero_le _, Nat.zero_le _⟩)) ?_
        refine lv_if_eq (tgt := 33) hx hb dX8_runRevise_26 (by decide) (fun c26 => ?_) (fun c26 => ?_)
        · have c26 := b2i_f c26
          refine lv_iconst (v := 0) hx hb dX8_runRevise_33 (by decide) ?_
          exact hJ _ (congrArg b2i ((if_pos c8).trans ((if_pos c15).trans ((if_neg c26).trans rfl))))
        · have c26 := b2i_t c26
          refine lv_iconst (v := 1) hx hb dX8_runRevise_29 (by decide) ?_
          refine lv_goto (tgt := 34) hx hb dX8_runRevise_30 (by decide) ?_
          exact hJ _ (congrArg b2i ((if_pos c8).trans ((if_pos c15).trans ((if_pos c26).trans rfl))))
theorem TR_runRevise {M : MS} (p1 p2 : Int32) (hv : MV (M.1.2 2)) : TR M (sX8_runRevise M p1 p2).2 := by
  unfold sX8_runRevise
  refine tr_if2 (fun c1 => ?_) (fun _ => TR.rf hv)
  exact TR_row (MV_revise _ hv (hasS_t hv.1.1 (rg_t c1).1))
theorem hd_X8_runPrint : yX8_runPrint.cls ≠ "java/lang/invoke/MethodHandle" ∧ yX8_runPrint.cls ≠ "java/lang/invoke/VarHandle" ∧ (parseMethodDescriptor yX8_runPrint.desc).map (fun d => d.parameters.length) = some 2 := by decide +kernel
def sX8_runPrint (M : MS) (p1 : Int32) (p2 : Int32) : Bool × MS := (if (sX8_hasSheet (M.1.2 2) p1) = true then (if (sX8_isSite p2) = true then (if (sX8_canPrint (M.1.2 2)) = true then ((if (((sX8_goPrint (M.1.2 2) p1 p2)).1) < 0 then false else true), (msA M 2 (((sX8_goPrint (M.1.2 2) p1 p2)).2))) else (false, M)) else (false, M)) else (false, M))
set_option maxHeartbeats 4000000 in
set_option maxRecDepth 100000 in
theorem c_X8_runPrint (l : Launch) (D : va_G) (cs : Nat → ClassId) (w : Nat → Nat) (M : MS) (p1 : Int32) (p2 : Int32) (hd : mD w) (hv2 : MV (M.1.2 2)) : Met l yX8_runPrint (wc yX8_runPrint cX8_runPrint 3 (some .boolean)) ({ frames := 2, cells := 0, slots := 0, locals := 46 } : Room) (va_Pc [.ref (w 0), .int p1, .int p2] (PE D cs (mW cs w M))) (va_Qi (fun (r9 : Int32) (u : MS) => r9 = b2i (sX8_runPrint M p1 p2).1 ∧ u = (sX8_runPrint M p1 p2).2) (fun u t => va_P D vwC (mW cs w u) t.heap) (mA w)) 0 0 (mA w) := by
  obtain ⟨v, hv⟩ : ∃ v, sX8_runPrint M p1 p2 = v := ⟨_, rfl⟩
  rw [hv]
  refine met_o (lv := [(0, .ref (w 0)), (1, .int p1), (2, .int p2)]) (by decide) (Nat.le_of_ble_eq_true rfl) rfl ?_
  intro p e s m args below meth c ls hx hb hr hml hts hown hlocks hin hP hE hl
  have hown : s.vm.findClass RX8 = some m.cls := hown
  have hK := hE.1
  have hP : va_P D vwC (mW cs w M) s.heap := hP
  have hS : va_S (mA w) s.heap s.heap [] := va_S.rf
  unfold sX8_runPrint at hv
  refine lv_aload_n hx hb dX8_runPrint_0 rfl (lv_at hl 0 rfl) ?_
  refine va_get (D := D) (ci := 8) (v := .ref (w 2)) (C := RX8) (T := TX8) (N := 14) hx hb hts iw_X8 hown hK hP 0 rfl rfl 2 (by decide) (hts _ w_fl_X8_13) (fun _ h9 => h9) rfl dX8_runPrint_1 ?_
  refine lv_iload_n hx hb dX8_runPrint_4 rfl (lv_at hl 1 rfl) ?_
  refine ro_i (b2i (sX8_hasSheet (M.1.2 2) p1)) (run_c (va_runS (As := [.ref (w 2), .int p1]) (rest := []) ⟨hx, hb, hml, hown, hts⟩ (c_X8_hasSheet l D cs (w 2) (M.1.2 2) p1) (cwS 2 hts (good_S w_ml_X8_139 w_st_X8_hasSheet w_in_X8 w_co_X8_hasSheet) rfl rfl rfl ⟨rfl, hd_X8_hasSheet⟩ ⟨Nat.le_of_ble_eq_true rfl, Nat.le_of_ble_eq_true rfl⟩) (pe_S (hP.sub (ws' := rowW cs (w 2) (M.1.2 2)) [2] rfl) hE) rfl rfl hl.1 rfl (lv_room (Nat.le_of_ble_eq_true rfl)) dX8_runPrint_5 ⟨Nat.zero_le _, Nat.zero_le _⟩)) ?_
  refine lv_if_eq (tgt := 44) hx hb dX8_runPrint_8 (by decide) (fun c8 => ?_) (fun c8 => ?_)
  · have c8 := b2i_f c8
    have hv := (if_neg c8).symm.trans hv
    refine lv_iconst (v := 0) hx hb dX8_runPrint_44 (by decide) ?_
    exact W.zret (ty := .boolean) (v := 0) hx hb hr (b2i_nar false) (fun t ht hW => ⟨⟨0, M, rfl, pairb_eq hv, pw ht hP⟩, hS.F ht⟩) hS.2.2 dX8_runPrint_45 (hlocks := hlocks)
  · have c8 := b2i_t c8
    have hv := (if_pos c8).symm.trans hv
    refine lv_iload_n hx hb dX8_runPrint_11 rfl (lv_at hl 2 rfl) ?_
    refine ro_i (b2i (sX8_isSite p2)) (run_c (va_runS (As := [.int p2]) (rest := []) ⟨hx, hb, hml, hown, hts⟩ (c_X8_isSite l D cs p2) (cwS 1 hts (good_S w_ml_X8_257 w_st_X8_isSite w_in_X8 w_co_X8_isSite) rfl rfl rfl ⟨rfl, hd_X8_isSite⟩ ⟨Nat.le_of_ble_eq_true rfl, Nat.le_of_ble_eq_true rfl⟩) (pe_S (p_nil D _) hE) rfl rfl hl.1 rfl (lv_room (Nat.le_of_ble_eq_true rfl)) dX8_runPrint_12 ⟨Nat.zero_le _, Nat.zero_le _⟩)) ?_
    refine lv_if_eq (tgt := 44) hx hb dX8_runPrint_15 (by decide) (fun c15 => ?_) (fun c15 => ?_)
    · have c15 := b2i_f c15
      have hv := (if_neg c15).symm.trans hv
      refine lv_iconst (v := 0) hx hb dX8_runPrint_44 (by decide) ?_
      exact W.zret (ty := .boolean) (v := 0) hx hb hr (b2i_nar false) (fun t ht hW => ⟨⟨0, M, rfl, pairb_eq hv, pw ht hP⟩, hS.F ht⟩) hS.2.2 dX8_runPrint_45 (hlocks := hlocks)
    · have c15 := b2i_t c15
      have hv := (if_pos c15).symm.trans hv
      refine lv_aload_n hx hb dX8_runPrint_18 rfl (lv_at hl 0 rfl) ?_
      refine va_get (D := D) (ci := 8) (v := .ref (w 2)) (C := RX8) (T := TX8) (N := 14) hx hb hts iw_X8 hown hK hP 0 rfl rfl 2 (by decide) (hts _ w_fl_X8_13) (fun _ h9 => h9) rfl dX8_runPrint_19 ?_
      refine ro_i (b2i (sX8_canPrint (M.1.2 2))) (run_c (va_runS (As := [.ref (w 2)]) (rest := []) ⟨hx, hb, hml, hown, hts⟩ (c_X8_canPrint l D cs (w 2) (M.1.2 2)) (cwS 1 hts (good_S w_ml_X8_172 w_st_X8_canPrint w_in_X8 w_co_X8_canPrint) rfl rfl rfl ⟨rfl, hd_X8_canPrint⟩ ⟨Nat.le_of_ble_eq_true rfl, Nat.le_of_ble_eq_true rfl⟩) (pe_S (hP.sub (ws' := rowW cs (w 2) (M.1.2 2)) [2] rfl) hE) rfl rfl hl.1 rfl (lv_room (Nat.le_of_ble_eq_true rfl)) dX8_runPrint_22 ⟨Nat.zero_le _, Nat.zero_le _⟩)) ?_
      refine lv_if_eq (tgt := 44) hx hb dX8_runPrint_25 (by decide) (fun c25 => ?_) (fun c25 => ?_)
      · have c25 := b2i_f c25
        have hv := (if_neg c25).symm.trans hv
        refine lv_iconst (v := 0) hx hb dX8_runPrint_44 (by decide) ?_
        exact W.zret (ty := .boolean) (v := 0) hx hb hr (b2i_nar false) (fun t ht hW => ⟨⟨0, M, rfl, pairb_eq hv, pw ht hP⟩, hS.F ht⟩) hS.2.2 dX8_runPrint_45 (hlocks := hlocks)
      · have c25 := b2i_t c25
        have hv := (if_pos c25).symm.trans hv
        refine lv_aload_n hx hb dX8_runPrint_28 rfl (lv_at hl 0 rfl) ?_
        refine va_get (D := D) (ci := 8) (v := .ref (w 2)) (C := RX8) (T := TX8) (N := 14) hx hb hts iw_X8 hown hK hP 0 rfl rfl 2 (by decide) (hts _ w_fl_X8_13) (fun _ h9 => h9) rfl dX8_runPrint_29 ?_
        refine lv_iload_n hx hb dX8_runPrint_32 rfl (lv_at hl 1 rfl) ?_
        refine lv_iload_n hx hb dX8_runPrint_33 rfl (lv_at hl 2 rfl) ?_
        obtain ⟨G34, hG34⟩ : ∃ G, sX8_goPrint (M.1.2 2) p1 p2 = G := ⟨_, rfl⟩
        have k34 := (c_X8_goPrint l D cs (w 2) (M.1.2 2) p1 p2 (cp_in hv2 c25) ((hasS_t hv2.1.1 c8).v hv2))
        rw [hG34] at k34
        rw [hG34] at hv
        refine w_i (G34) (va_runS (As := [.ref (w 2), .int p1, .int p2]) (rest := []) ⟨hx, hb, hml, hown, hts⟩ k34 (cwS 3 hts (good_S w_ml_X8_175 w_st_X8_goPrint w_in_X8 w_co_X8_goPrint) rfl rfl rfl ⟨rfl, hd_X8_goPrint⟩ ⟨Nat.le_of_ble_eq_true rfl, Nat.le_of_ble_eq_true rfl⟩) (pe_S (hP.sub (ws' := rowW cs (w 2) (M.1.2 2)) [2] rfl) hE) rfl rfl hl.1 rfl (lv_room (Nat.le_of_ble_eq_true rfl)) dX8_runPrint_34 ⟨Nat.zero_le _, Nat.zero_le _⟩) hS (fun _ _ h => ⟨2, by decide, h⟩) (fun _ h => ⟨2, by decide, h⟩) (fun t locs hB hz hk hS => ?_)
        have hP : va_P D vwC (mW cs w (msA M 2 ((G34).2))) t.heap := m_up2 hd hP hk hB
        refine join_i (J := 45) (ls := ls) (rest := []) (b2i (if ((G34).1) < 0 then false else true)) ?_ (fun hJ => ?_)
        · exact W.zret (ty := .boolean) (v := b2i (if ((G34).1) < 0 then false else true)) hx hb hr (b2i_nar (if ((G34).1) < 0 then false else true)) (fun t ht hW => ⟨⟨b2i (if ((G34).1) < 0 then false else true), (msA M 2 ((G34).2)), rfl, pairb_eq hv, pw ht hP⟩, hS.F ht⟩) hS.2.2 dX8_runPrint_45 (hlocks := hlocks)
        · refine lv_if_lt (tgt := 44) hx hb dX8_runPrint_37 (by decide) (fun c37 => ?_) (fun c37 => ?_)
          · refine lv_iconst (v := 0) hx hb dX8_runPrint_44 (by decide) ?_
            exact hJ _ (congrArg b2i ((if_pos c37).trans rfl))
          · refine lv_iconst (v := 1) hx hb dX8_runPrint_40 (by decide) ?_
            refine lv_goto (tgt := 45) hx hb dX8_runPrint_41 (by decide) ?_
            exact hJ _ (congrArg b2i ((if_neg c37).trans rfl))
theorem TR_runPrint {M : MS} (p1 p2 : Int32) (hv : MV (M.1.2 2)) : TR M (sX8_runPrint M p1 p2).2 := by
  unfold sX8_runPrint
  refine tr_if2 (fun c1 => ?_) (fun _ => TR.rf hv)
  refine tr_if2 (fun c2 => ?_) (fun _ => TR.rf hv)
  refine tr_if2 (fun c3 => ?_) (fun _ => TR.rf hv)
  exact TR_row (MV_print _ hv (cp_in hv c3) (hasS_t hv.1.1 c1))
theorem hd_X8_runStamp : yX8_runStamp.cls ≠ "java/lang/invoke/MethodHandle" ∧ yX8_runStamp.cls ≠ "java/lang/invoke/VarHandle" ∧ (parseMethodDescriptor yX8_runStamp.desc).map (fun d => d.parameters.length) = some 2 := by decide +kernel
def sX8_runStamp (M : MS) (p1 : Int32) (p2 : Int32) : Bool × MS := (if (sX8_hasPrint (M.1.2 2) p1) = true then (if (sX8_isHand p2) = true then (if (sX8_canStamp (M.1.2 2) p1) = true then ((if (((sX8_goStamp (M.1.2 2) p1 p2)).1) ≤ 0 then false else true), (msA M 2 (((sX8_goStamp (M.1.2 2) p1 p2)).2))) else (false, M)) else (false, M)) else (false, M))
set_option maxHeartbeats 4000000 in
set_option maxRecDepth 100000 in
theorem c_X8_runStamp (l : Launch) (D : va_G) (cs : Nat → ClassId) (w : Nat → Nat) (M : MS) (p1 : Int32) (p2 : Int32) (hd : mD w) (hv2 : MV (M.1.2 2)) : Met l yX8_runStamp (wc yX8_runStamp cX8_runStamp 3 (some .boolean)) ({ frames := 3, cells := 0, slots := 0, locals := 63 } : Room) (va_Pc [.ref (w 0), .int p1, .int p2] (PE D cs (mW cs w M))) (va_Qi (fun (r9 : Int32) (u : MS) => r9 = b2i (sX8_runStamp M p1 p2).1 ∧ u = (sX8_runStamp M p1 p2).2) (fun u t => va_P D vwC (mW cs w u) t.heap) (mA w)) 0 0 (mA w) := by
  obtain ⟨v, hv⟩ : ∃ v, sX8_runStamp M p1 p2 = v := ⟨_, rfl⟩
  rw [hv]
  refine met_o (lv := [(0, .ref (w 0)), (1, .int p1), (2, .int p2)]) (by decide) (Nat.le_of_ble_eq_true rfl) rfl ?_
  intro p e s m args below meth c ls hx hb hr hml hts hown hlocks hin hP hE hl
  have hown : s.vm.findClass RX8 = some m.cls := hown
  have hK := hE.1
  have hP : va_P D vwC (mW cs w M) s.heap := hP
  have hS : va_S (mA w) s.heap s.heap [] := va_S.rf
  unfold sX8_runStamp at hv
  refine lv_aload_n hx hb dX8_runStamp_0 rfl (lv_at hl 0 rfl) ?_
  refine va_get (D := D) (ci := 8) (v := .ref (w 2)) (C := RX8) (T := TX8) (N := 14) hx hb hts iw_X8 hown hK hP 0 rfl rfl 2 (by decide) (hts _ w_fl_X8_13) (fun _ h9 => h9) rfl dX8_runStamp_1 ?_
  refine lv_iload_n hx hb dX8_runStamp_4 rfl (lv_at hl 1 rfl) ?_
  refine ro_i (b2i (sX8_hasPrint (M.1.2 2) p1)) (run_c (va_runS (As := [.ref (w 2), .int p1]) (rest := []) ⟨hx, hb, hml, hown, hts⟩ (c_X8_hasPrint l D cs (w 2) (M.1.2 2) p1) (cwS 2 hts (good_S w_ml_X8_178 w_st_X8_hasPrint w_in_X8 w_co_X8_hasPrint) rfl rfl rfl ⟨rfl, hd_X8_hasPrint⟩ ⟨Nat.le_of_ble_eq_true rfl, Nat.le_of_ble_eq_true rfl⟩) (pe_S (hP.sub (ws' := rowW cs (w 2) (M.1.2 2)) [2] rfl) hE) rfl rfl hl.1 rfl (lv_room (Nat.le_of_ble_eq_true rfl)) dX8_runStamp_5 ⟨Nat.zero_le _, Nat.zero_le _⟩)) ?_
  refine lv_if_eq (tgt := 45) hx hb dX8_runStamp_8 (by decide) (fun c8 => ?_) (fun c8 => ?_)
  · have c8 := b2i_f c8
    have hv := (if_neg c8).symm.trans hv
    refine lv_iconst (v := 0) hx hb dX8_runStamp_45 (by decide) ?_
    exact W.zret (ty := .boolean) (v := 0) hx hb hr (b2i_nar false) (fun t ht hW => ⟨⟨0, M, rfl, pairb_eq hv, pw ht hP⟩, hS.F ht⟩) hS.2.2 dX8_runStamp_46 (hlocks := hlocks)
  · have c8 := b2i_t c8
    have hv := (if_pos c8).symm.trans hv
    refine lv_iload_n hx hb dX8_runStamp_11 rfl (lv_at hl 2 rfl) ?_
    refine ro_i (b2i (sX8_isHand p2)) (run_c (va_runS (As := [.int p2]) (rest := []) ⟨hx, hb, hml, hown, hts⟩ (c_X8_isHand l D cs p2) (cwS 1 hts (good_S w_ml_X8_260 w_st_X8_isHand w_in_X8 w_co_X8_isHand) rfl rfl rfl ⟨rfl, hd_X8_isHand⟩ ⟨Nat.le_of_ble_eq_true rfl, Nat.le_of_ble_eq_true rfl⟩) (pe_S (p_nil D _) hE) rfl rfl hl.1 rfl (lv_room (Nat.le_of_ble_eq_true rfl)) dX8_runStamp_12 ⟨Nat.zero_le _, Nat.zero_le _⟩)) ?_
    refine lv_if_eq (tgt := 45) hx hb dX8_runStamp_15 (by decide) (fun c15 => ?_) (fun c15 => ?_)
    · have c15 := b2i_f c15
      have hv := (if_neg c15).symm.trans hv
      refine lv_iconst (v := 0) hx hb dX8_runStamp_45 (by decide) ?_
      exact W.zret (ty := .boolean) (v := 0) hx hb hr (b2i_nar false) (fun t ht hW => ⟨⟨0, M, rfl, pairb_eq hv, pw ht hP⟩, hS.F ht⟩) hS.2.2 dX8_runStamp_46 (hlocks := hlocks)
    · have c15 := b2i_t c15
      have hv := (if_pos c15).symm.trans hv
      refine lv_aload_n hx hb dX8_runStamp_18 rfl (lv_at hl 0 rfl) ?_
      refine va_get (D := D) (ci := 8) (v := .ref (w 2)) (C := RX8) (T := TX8) (N := 14) hx hb hts iw_X8 hown hK hP 0 rfl rfl 2 (by decide) (hts _ w_fl_X8_13) (fun _ h9 => h9) rfl dX8_runStamp_19 ?_
      refine lv_iload_n hx hb dX8_runStamp_22 rfl (lv_at hl 1 rfl) ?_
      refine ro_i (b2i (sX8_canStamp (M.1.2 2) p1)) (run_c (va_runS (As := [.ref (w 2), .int p1]) (rest := []) ⟨hx, hb, hml, hown, hts⟩ (c_X8_canStamp l D cs (w 2) (M.1.2 2) p1 ((hasP_t hv2.2.1.1 c8).v hv2)) (cwS 2 hts (good_S w_ml_X8_181 w_st_X8_canStamp w_in_X8 w_co_X8_canStamp) rfl rfl rfl ⟨rfl, hd_X8_canStamp⟩ ⟨Nat.le_of_ble_eq_true rfl, Nat.le_of_ble_eq_true rfl⟩) (pe_S (hP.sub (ws' := rowW cs (w 2) (M.1.2 2)) [2] rfl) hE) rfl rfl hl.1 rfl (lv_room (Nat.le_of_ble_eq_true rfl)) dX8_runStamp_23 ⟨Nat.zero_le _, Nat.zero_le _⟩)) ?_
      refine lv_if_eq (tgt := 45) hx hb dX8_runStamp_26 (by decide) (fun c26 => ?_) (fun c26 => ?_)
      · have c26 := b2i_f c26
        have hv := (if_neg c26).symm.trans hv
        refine lv_iconst (v := 0) hx hb dX8_runStamp_45 (by decide) ?_
        exact W.zret (ty := .boolean) (v := 0) hx hb hr (b2i_nar false) (fun t ht hW => ⟨⟨0, M, rfl, pairb_eq hv, pw ht hP⟩, hS.F ht⟩) hS.2.2 dX8_runStamp_46 (hlocks := hlocks)
      · have c26 := b2i_t c26
        have hv := (if_pos c26).symm.trans hv
        refine lv_aload_n hx hb dX8_runStamp_29 rfl (lv_at hl 0 rfl) ?_
        refine va_get (D := D) (ci := 8) (v := .ref (w 2)) (C := RX8) (T := TX8) (N := 14) hx hb hts iw_X8 hown hK hP 0 rfl rfl 2 (by decide) (hts _ w_fl_X8_13) (fun _ h9 => h9) rfl dX8_runStamp_30 ?_
        refine lv_iload_n hx hb dX8_runStamp_33 rfl (lv_at hl 1 rfl) ?_
        refine lv_iload_n hx hb dX8_runStamp_34 rfl (lv_at hl 2 rfl) ?_
        obtain ⟨G35, hG35⟩ : ∃ G, sX8_goStamp (M.1.2 2) p1 p2 = G := ⟨_, rfl⟩
        have k35 := (c_X8_goStamp l D cs (w 2) (M.1.2 2) p1 p2 ((hasP_t hv2.2.1.1 c8).v hv2))
        rw [hG35] at k35
        rw [hG35] at hv
        refine w_i (G35) (va_runS (As := [.ref (w 2), .int p1, .int p2]) (rest := []) ⟨hx, hb, hml, hown, hts⟩ k35 (cwS 3 hts (good_S w_ml_X8_184 w_st_X8_goStamp w_in_X8 w_co_X8_goStamp) rfl rfl rfl ⟨rfl, hd_X8_goStamp⟩ ⟨Nat.le_of_ble_eq_true rfl, Nat.le_of_ble_eq_true rfl⟩) (pe_S (hP.sub (ws' := rowW cs (w 2) (M.1.2 2)) [2] rfl) hE) rfl rfl hl.1 rfl (lv_room (Nat.le_of_ble_eq_true rfl)) dX8_runStamp_35 ⟨Nat.zero_le _, Nat.zero_le _⟩) hS (fun _ _ h => ⟨2, by decide, h⟩) (fun _ h => ⟨2, by decide, h⟩) (fun t locs hB hz hk hS => ?_)
        have hP : va_P D vwC (mW cs w (msA M 2 ((G35).2))) t.heap := m_up2 hd hP hk hB
        refine join_i (J := 46) (ls := ls) (rest := []) (b2i (if ((G35).1) ≤ 0 then false else true)) ?_ (fun hJ => ?_)
        · exact W.zret (ty := .boolean) (v := b2i (if ((G35).1) ≤ 0 then false else true)) hx hb hr (b2i_nar (if ((G35).1) ≤ 0 then false else true)) (fun t ht hW => ⟨⟨b2i (if ((G35).1) ≤ 0 then false else true), (msA M 2 ((G35).2)), rfl, pairb_eq hv, pw ht hP⟩, hS.F ht⟩) hS.2.2 dX8_runStamp_46 (hlocks := hlocks)
        · refine lv_if_le (tgt := 45) hx hb dX8_runStamp_38 (by decide) (fun c38 => ?_) (fun c38 => ?_)
          · refine lv_iconst (v := 0) hx hb dX8_runStamp_45 (by decide) ?_
            exact hJ _ (congrArg b2i ((if_pos c38).trans rfl))
          · refine lv_iconst (v := 1) hx hb dX8_runStamp_41 (by decide) ?_
            refine lv_goto (tgt := 46) hx hb dX8_runStamp_42 (by decide) ?_
            exact hJ _ (congrArg b2i ((if_neg c38).trans rfl))
theorem TR_runStamp {M : MS} (p1 p2 : Int32) (hv : MV (M.1.2 2)) : TR M (sX8_runStamp M p1 p2).2 := by
  unfold sX8_runStamp
  refine tr_if2 (fun c1 => ?_) (fun _ => TR.rf hv)
  refine tr_if2 (fun c2 => ?_) (fun _ => TR.rf hv)
  refine tr_if2 (fun c3 => ?_) (fun _ => TR.rf hv)
  exact TR_row (MV_stamp _ hv ((hasP_t hv.2.1.1 c1).v hv))
theorem hd_X8_runBuild : yX8_runBuild.cls ≠ "java/lang/invoke/MethodHandle" ∧ yX8_runBuild.cls ≠ "java/lang/invoke/VarHandle" ∧ (parseMethodDescriptor yX8_runBuild.desc).map (fun d => d.parameters.length) = some 2 := by decide +kernel
def sX8_runBuild (M : MS) (p1 : Int32) (p2 : Int32) : Bool × MS := (if (sX8_hasPrint (M.1.2 2) p1) = true then (if (sX8_isField p2) = true then (if (sX8_canBuild (M.1.2 2) p1) = true then ((if (((sX8_goBuild (M.1.2 2) p1 p2)).1) < 0 then false else true), (msA M 2 (((sX8_goBuild (M.1.2 2) p1 p2)).2))) else (false, M)) else (false, M)) else (false, M))
set_option maxHeartbeats 4000000 in
set_option maxRecDepth 100000 in
theorem c_X8_runBuild (l : Launch) (D : va_G) (cs : Nat → ClassId) (w : Nat → Nat) (M : MS) (p1 : Int32) (p2 : Int32) (hd : mD w) (hv2 : MV (M.1.2 2)) : Met l yX8_runBuild (wc yX8_runBuild cX8_runBuild 3 (some .boolean)) ({ frames := 4, cells := 0, slots := 0, locals := 84 } : Room) (va_Pc [.ref (w 0), .int p1, .int p2] (PE D cs (mW cs w M))) (va_Qi (fun (r9 : Int32) (u : MS) => r9 = b2i (sX8_runBuild M p1 p2).1 ∧ u = (sX8_runBuild M p1 p2).2) (fun u t => va_P D vwC (mW cs w u) t.heap) (mA w)) 0 0 (mA w) := by
  obtain ⟨v, hv⟩ : ∃ v, sX8_runBuild M p1 p2 = v := ⟨_, rfl⟩
  rw [hv]
  refine met_o (lv := [(0, .ref (w 0)), (1, .int p1), (2, .int p2)]) (by decide) (Nat.le_of_ble_eq_true rfl) rfl ?_
  intro p e s m args below meth c ls hx hb hr hml hts hown hlocks hin hP hE hl
  have hown : s.vm.findClass RX8 = some m.cls := hown
  have hK := hE.1
  have hP : va_P D vwC (mW cs w M) s.heap := hP
  have hS : va_S (mA w) s.heap s.heap [] := va_S.rf
  unfold sX8_runBuild at hv
  refine lv_aload_n hx hb dX8_runBuild_0 rfl (lv_at hl 0 rfl) ?_
  refine va_get (D := D) (ci := 8) (v := .ref (w 2)) (C := RX8) (T := TX8) (N := 14) hx hb hts iw_X8 hown hK hP 0 rfl rfl 2 (by decide) (hts _ w_fl_X8_13) (fun _ h9 => h9) rfl dX8_runBuild_1 ?_
  refine lv_iload_n hx hb dX8_runBuild_4 rfl (lv_at hl 1 rfl) ?_
  refine ro_i (b2i (sX8_hasPrint (M.1.2 2) p1)) (run_c (va_runS (As := [.ref (w 2), .int p1]) (rest := []) ⟨hx, hb, hml, hown, hts⟩ (c_X8_hasPrint l D cs (w 2) (M.1.2 2) p1) (cwS 2 hts (good_S w_ml_X8_178 w_st_X8_hasPrint w_in_X8 w_co_X8_hasPrint) rfl rfl rfl ⟨rfl, hd_X8_hasPrint⟩ ⟨Nat.le_of_ble_eq_true rfl, Nat.le_of_ble_eq_true rfl⟩) (pe_S (hP.sub (ws' := rowW cs (w 2) (M.1.2 2)) [2] rfl) hE) rfl rfl hl.1 rfl (lv_room (Nat.le_of_ble_eq_true rfl)) dX8_runBuild_5 ⟨Nat.zero_le _, Nat.zero_le _⟩)) ?_
  refine lv_if_eq (tgt := 45) hx hb dX8_runBuild_8 (by decide) (fun c8 => ?_) (fun c8 => ?_)
  · have c8 := b2i_f c8
    have hv := (if_neg c8).symm.trans hv
    refine lv_iconst (v := 0) hx hb dX8_runBuild_45 (by decide) ?_
    exact W.zret (ty := .boolean) (v := 0) hx hb hr (b2i_nar false) (fun t ht hW => ⟨⟨0, M, rfl, pairb_eq hv, pw ht hP⟩, hS.F ht⟩) hS.2.2 dX8_runBuild_46 (hlocks := hlocks)
  · have c8 := b2i_t c8
    have hv := (if_pos c8).symm.trans hv
    refine lv_iload_n hx hb dX8_runBuild_11 rfl (lv_at hl 2 rfl) ?_
    refine ro_i (b2i (sX8_isField p2)) (run_c (va_runS (As := [.int p2]) (rest := []) ⟨hx, hb, hml, hown, hts⟩ (c_X8_isField l D cs p2) (cwS 1 hts (good_S w_ml_X8_232 w_st_X8_isField w_in_X8 w_co_X8_isField) rfl rfl rfl ⟨rfl, hd_X8_isField⟩ ⟨Nat.le_of_ble_eq_true rfl, Nat.le_of_ble_eq_true rfl⟩) (pe_S (p_nil D _) hE) rfl rfl hl.1 rfl (lv_room (Nat.le_of_ble_eq_true rfl)) dX8_runBuild_12 ⟨Nat.zero_le _, Nat.zero_le _⟩)) ?_
    refine lv_if_eq (tgt := 45) hx hb dX8_runBuild_15 (by decide) (fun c15 => ?_) (fun c15 => ?_)
    · have c15 := b2i_f c15
      have hv := (if_neg c15).symm.trans hv
      refine lv_iconst (v := 0) hx hb dX8_runBuild_45 (by decide) ?_
      exact W.zret (ty := .boolean) (v := 0) hx hb hr (b2i_nar false) (fun t ht hW => ⟨⟨0, M, rfl, pairb_eq hv, pw ht hP⟩, hS.F ht⟩) hS.2.2 dX8_runBuild_46 (hlocks := hlocks)
    · have c15 := b2i_t c15
      have hv := (if_pos c15).symm.trans hv
      refine lv_aload_n hx hb dX8_runBuild_18 rfl (lv_at hl 0 rfl) ?_
      refine va_get (D := D) (ci := 8) (v := .ref (w 2)) (C := RX8) (T := TX8) (N := 14) hx hb hts iw_X8 hown hK hP 0 rfl rfl 2 (by decide) (hts _ w_fl_X8_13) (fun _ h9 => h9) rfl dX8_runBuild_19 ?_
      refine lv_iload_n hx hb dX8_runBuild_22 rfl (lv_at hl 1 rfl) ?_
      refine ro_i (b2i (sX8_canBuild (M.1.2 2) p1)) (run_c (va_runS (As := [.ref (w 2), .int p1]) (rest := []) ⟨hx, hb, hml, hown, hts⟩ (c_X8_canBuild l D cs (w 2) (M.1.2 2) p1 ((hasP_t hv2.2.1.1 c8).v hv2)) (cwS 2 hts (good_S w_ml_X8_266 w_st_X8_canBuild w_in_X8 w_co_X8_canBuild) rfl rfl rfl ⟨rfl, hd_X8_canBuild⟩ ⟨Nat.le_of_ble_eq_true rfl, Nat.le_of_ble_eq_true rfl⟩) (pe_S (hP.sub (ws' := rowW cs (w 2) (M.1.2 2)) [2] rfl) hE) rfl rfl hl.1 rfl (lv_room (Nat.le_of_ble_eq_true rfl)) dX8_runBuild_23 ⟨Nat.zero_le _, Nat.zero_le _⟩)) ?_
      refine lv_if_eq (tgt := 45) hx hb dX8_runBuild_26 (by decide) (fun c26 => ?_) (fun c26 => ?_)
      · have c26 := b2i_f c26
        have hv := (if_neg c26).symm.trans hv
        refine lv_iconst (v := 0) hx hb dX8_runBuild_45 (by decide) ?_
        exact W.zret (ty := .boolean) (v := 0) hx hb hr (b2i_nar false) (fun t ht hW => ⟨⟨0, M, rfl, pairb_eq hv, pw ht hP⟩, hS.F ht⟩) hS.2.2 dX8_runBuild_46 (hlocks := hlocks)
      · have c26 := b2i_t c26
        have hv := (if_pos c26).symm.trans hv
        refine lv_aload_n hx hb dX8_runBuild_29 rfl (lv_at hl 0 rfl) ?_
        refine va_get (D := D) (ci := 8) (v := .ref (w 2)) (C := RX8) (T := TX8) (N := 14) hx hb hts iw_X8 hown hK hP 0 rfl rfl 2 (by decide) (hts _ w_fl_X8_13) (fun _ h9 => h9) rfl dX8_runBuild_30 ?_
        refine lv_iload_n hx hb dX8_runBuild_33 rfl (lv_at hl 1 rfl) ?_
        refine lv_iload_n hx hb dX8_runBuild_34 rfl (lv_at hl 2 rfl) ?_
        obtain ⟨G35, hG35⟩ : ∃ G, sX8_goBuild (M.1.2 2) p1 p2 = G := ⟨_, rfl⟩
        have k35 := (c_X8_goBuild l D cs (w 2) (M.1.2 2) p1 p2 (cb_in hv2 c26) ((hasP_t hv2.2.1.1 c8).v hv2))
        rw [hG35] at k35
        rw [hG35] at hv
        refine w_i (G35) (va_runS (As := [.ref (w 2), .int p1, .int p2]) (rest := []) ⟨hx, hb, hml, hown, hts⟩ k35 (cwS 3 hts (good_S w_ml_X8_269 w_st_X8_goBuild w_in_X8 w_co_X8_goBuild) rfl rfl rfl ⟨rfl, hd_X8_goBuild⟩ ⟨Nat.le_of_ble_eq_true rfl, Nat.le_of_ble_eq_true rfl⟩) (pe_S (hP.sub (ws' := rowW cs (w 2) (M.1.2 2)) [2] rfl) hE) rfl rfl hl.1 rfl (lv_room (Nat.le_of_ble_eq_true rfl)) dX8_runBuild_35 ⟨Nat.zero_le _, Nat.zero_le _⟩) hS (fun _ _ h => ⟨2, by decide, h⟩) (fun _ h => ⟨2, by decide, h⟩) (fun t locs hB hz hk hS => ?_)
        have hP : va_P D vwC (mW cs w (msA M 2 ((G35).2))) t.heap := m_up2 hd hP hk hB
        refine join_i (J := 46) (ls := ls) (rest := []) (b2i (if ((G35).1) < 0 then false else true)) ?_ (fun hJ => ?_)
        · exact W.zret (ty := .boolean) (v := b2i (if ((G35).1) < 0 then false else true)) hx hb hr (b2i_nar (if ((G35).1) < 0 then false else true)) (fun t ht hW => ⟨⟨b2i (if ((G35).1) < 0 then false else true), (msA M 2 ((G35).2)), rfl, pairb_eq hv, pw ht hP⟩, hS.F ht⟩) hS.2.2 dX8_runBuild_46 (hlocks := hlocks)
        · refine lv_if_lt (tgt := 45) hx hb dX8_runBuild_38 (by decide) (fun c38 => ?_) (fun c38 => ?_)
          · refine lv_iconst (v := 0) hx hb dX8_runBuild_45 (by decide) ?_
            exact hJ _ (congrArg b2i ((if_pos c38).trans rfl))
          · refine lv_iconst (v := 1) hx hb dX8_runBuild_41 (by decide) ?_
            refine lv_goto (tgt := 46) hx hb dX8_runBuild_42 (by decide) ?_
            exact hJ _ (congrArg b2i ((if_neg c38).trans rfl))
theorem TR_runBuild {M : MS} (p1 p2 : Int32) (hv : MV (M.1.2 2)) : TR M (sX8_runBuild M p1 p2).2 := by
  unfold sX8_runBuild
  refine tr_if2 (fun c1 => ?_) (fun _ => TR.rf hv)
  refine tr_if2 (fun c2 => ?_) (fun _ => TR.rf hv)
  refine tr_if2 (fun c3 => ?_) (fun _ => TR.rf hv)
  exact TR_row (MV_build hv (cb_in hv c3) (hasP_t hv.2.1.1 c1) (isF_t c2))
theorem hd_X8_runBack : yX8_runBack.cls ≠ "java/lang/invoke/MethodHandle" ∧ yX8_runBack.cls ≠ "java/lang/invoke/VarHandle" ∧ (parseMethodDescriptor yX8_runBack.desc).map (fun d => d.parameters.length) = some 1 := by decide +kernel
def sX8_runBack (M : MS) (p1 : Int32) : Bool × MS := (if (sX8_hasPrint (M.1.2 2) p1) = true then (if (sX8_isOut (M.1.2 2) p1) = true then ((if (((sX8_goBack (M.1.2 2) p1)).1) < 0 then false else true), (msA M 2 (((sX8_goBack (M.1.2 2) p1)).2))) else (false, M)) else (false, M))
set_option maxHeartbeats 4000000 in
set_option maxRecDepth 100000 in
theorem c_X8_runBack (l : Launch) (D : va_G) (cs : Nat → ClassId) (w : Nat → Nat) (M : MS) (p1 : Int32) (hd : mD w) (hv2 : MV (M.1.2 2)) : Met l yX8_runBack (wc yX8_runBack cX8_runBack 2 (some .boolean)) ({ frames := 4, cells := 0, slots := 0, locals := 86 } : Room) (va_Pc [.ref (w 0), .int p1] (PE D cs (mW cs w M))) (va_Qi (fun (r9 : Int32) (u : MS) => r9 = b2i (sX8_runBack M p1).1 ∧ u = (sX8_runBack M p1).2) (fun u t => va_P D vwC (mW cs w u) t.heap) (mA w)) 0 0 (mA w) := by
  obtain ⟨v, hv⟩ : ∃ v, sX8_runBack M p1 = v := ⟨_, rfl⟩
  rw [hv]
  refine met_o (lv := [(0, .ref (w 0)), (1, .int p1)]) (by decide) (Nat.le_of_ble_eq_true rfl) rfl ?_
  intro p e s m args below meth c ls hx hb hr hml hts hown hlocks hin hP hE hl
  have hown : s.vm.findClass RX8 = some m.cls := hown
  have hK := hE.1
  have hP : va_P D vwC (mW cs w M) s.heap := hP
  have hS : va_S (mA w) s.heap s.heap [] := va_S.rf
  unfold sX8_runBack at hv
  refine lv_aload_n hx hb dX8_runBack_0 rfl (lv_at hl 0 rfl) ?_
  refine va_get (D := D) (ci := 8) (v := .ref (w 2)) (C := RX8) (T := TX8) (N := 14) hx hb hts iw_X8 hown hK hP 0 rfl rfl 2 (by decide) (hts _ w_fl_X8_13) (fun _ h9 => h9) rfl dX8_runBack_1 ?_
  refine lv_iload_n hx hb dX8_runBack_4 rfl (lv_at hl 1 rfl) ?_
  refine ro_i (b2i (sX8_hasPrint (M.1.2 2) p1)) (run_c (va_runS (As := [.ref (w 2), .int p1]) (rest := []) ⟨hx, hb, hml, hown, hts⟩ (c_X8_hasPrint l D cs (w 2) (M.1.2 2) p1) (cwS 2 hts (good_S w_ml_X8_178 w_st_X8_hasPrint w_in_X8 w_co_X8_hasPrint) rfl rfl rfl ⟨rfl, hd_X8_hasPrint⟩ ⟨Nat.le_of_ble_eq_true rfl, Nat.le_of_ble_eq_true rfl⟩) (pe_S (hP.sub (ws' := rowW cs (w 2) (M.1.2 2)) [2] rfl) hE) rfl rfl hl.1 rfl (lv_room (Nat.le_of_ble_eq_true rfl)) dX8_runBack_5 ⟨Nat.zero_le _, Nat.zero_le _⟩)) ?_
  refine lv_if_eq (tgt := 37) hx hb dX8_runBack_8 (by decide) (fun c8 => ?_) (fun c8 => ?_)
  · have c8 := b2i_f c8
    have hv := (if_neg c8).symm.trans hv
    refine lv_iconst (v := 0) hx hb dX8_runBack_37 (by decide) ?_
    exact W.zret (ty := .boolean) (v := 0) hx hb hr (b2i_nar false) (fun t ht hW => ⟨⟨0, M, rfl, pairb_eq hv, pw ht hP⟩, hS.F ht⟩) hS.2.2 dX8_runBack_38 (hlocks := hlocks)
  · have c8 := b2i_t c8
    have hv := (if_pos c8).symm.trans hv
    refine lv_aload_n hx hb dX8_runBack_11 rfl (lv_at hl 0 rfl) ?_
    refine va_get (D := D) (ci := 8) (v := .ref (w 2)) (C := RX8) (T := TX8) (N := 14) hx hb hts iw_X8 hown hK hP 0 rfl rfl 2 (by decide) (hts _ w_fl_X8_13) (fun _ h9 => h9) rfl dX8_runBack_12 ?_
    refine lv_iload_n hx hb dX8_runBack_15 rfl (lv_at hl 1 rfl) ?_
    refine ro_i (b2i (sX8_isOut (M.1.2 2) p1)) (run_c (va_runS (As := [.ref (w 2), .int p1]) (rest := []) ⟨hx, hb, hml, hown, hts⟩ (c_X8_isOut l D cs (w 2) (M.1.2 2) p1) (cwS 2 hts (good_S w_ml_X8_70 w_st_X8_isOut w_in_X8 w_co_X8_isOut) rfl rfl rfl ⟨rfl, hd_X8_isOut⟩ ⟨Nat.le_of_ble_eq_true rfl, Nat.le_of_ble_eq_true rfl⟩) (pe_S (hP.sub (ws' := rowW cs (w 2) (M.1.2 2)) [2] rfl) hE) rfl rfl hl.1 rfl (lv_room (Nat.le_of_ble_eq_true rfl)) dX8_runBack_16 ⟨Nat.zero_le _, Nat.zero_le _⟩)) ?_
    refine lv_if_eq (tgt := 37) hx hb dX8_runBack_19 (by decide) (fun c19 => ?_) (fun c19 => ?_)
    · have c19 := b2i_f c19
      have hv := (if_neg c19).symm.trans hv
      refine lv_iconst (v := 0) hx hb dX8_runBack_37 (by decide) ?_
      exact W.zret (ty := .boolean) (v := 0) hx hb hr (b2i_nar false) (fun t ht hW => ⟨⟨0, M, rfl, pairb_eq hv, pw ht hP⟩, hS.F ht⟩) hS.2.2 dX8_runBack_38 (hlocks := hlocks)
    · have c19 := b2i_t c19
      have hv := (if_pos c19).symm.trans hv
      refine lv_aload_n hx hb dX8_runBack_22 rfl (lv_at hl 0 rfl) ?_
      refine va_get (D := D) (ci := 8) (v := .ref (w 2)) (C := RX8) (T := TX8) (N := 14) hx hb hts iw_X8 hown hK hP 0 rfl rfl 2 (by decide) (hts _ w_fl_X8_13) (fun _ h9 => h9) rfl dX8_runBack_23 ?_
      refine lv_iload_n hx hb dX8_runBack_26 rfl (lv_at hl 1 rfl) ?_
      obtain ⟨G27, hG27⟩ : ∃ G, sX8_goBack (M.1.2 2) p1 = G := ⟨_, rfl⟩
      have k27 := (c_X8_goBack l D cs (w 2) (M.1.2 2) p1 ((hasP_t hv2.2.1.1 c8).v hv2))
      rw [hG27] at k27
      rw [hG27] at hv
      refine w_i (G27) (va_runS (As := [.ref (w 2), .int p1]) (rest := []) ⟨hx, hb, hml, hown, hts⟩ k27 (cwS 2 hts (good_S w_ml_X8_263 w_st_X8_goBack w_in_X8 w_co_X8_goBack) rfl rfl rfl ⟨rfl, hd_X8_goBack⟩ ⟨Nat.le_of_ble_eq_true rfl, Nat.le_of_ble_eq_true rfl⟩) (pe_S (hP.sub (ws' := rowW cs (w 2) (M.1.2 2)) [2] rfl) hE) rfl rfl hl.1 rfl (lv_room (Nat.le_of_ble_eq_true rfl)) dX8_runBack_27 ⟨Nat.zero_le _, Nat.zero_le _⟩) hS (fun _ _ h => ⟨2, by decide, h⟩) (fun _ h => ⟨2, by decide, h⟩) (fun t locs hB hz hk hS => ?_)
      have hP : va_P D vwC (mW cs w (msA M 2 ((G27).2))) t.heap := m_up2 hd hP hk hB
      refine join_i (J := 38) (ls := ls) (rest := []) (b2i (if ((G27).1) < 0 then false else true)) ?_ (fun hJ => ?_)
      · exact W.zret (ty := .boolean) (v := b2i (if ((G27).1) < 0 then false else true)) hx hb hr (b2i_nar (if ((G27).1) < 0 then false else true)) (fun t ht hW => ⟨⟨b2i (if ((G27).1) < 0 then false else true), (msA M 2 ((G27).2)), rfl, pairb_eq hv, pw ht hP⟩, hS.F ht⟩) hS.2.2 dX8_runBack_38 (hlocks := hlocks)
      · refine lv_if_lt (tgt := 37) hx hb dX8_runBack_30 (by decide) (fun c30 => ?_) (fun c30 => ?_)
        · refine lv_iconst (v := 0) hx hb dX8_runBack_37 (by decide) ?_
          exact hJ _ (congrArg b2i ((if_pos c30).trans rfl))
        · refine lv_iconst (v := 1) hx hb dX8_runBack_33 (by decide) ?_
          refine lv_goto (tgt := 38) hx hb dX8_runBack_34 (by decide) ?_
          exact hJ _ (congrArg b2i ((if_neg c30).trans rfl))
theorem TR_runBack {M : MS} (p1 : Int32) (hv : MV (M.1.2 2)) : TR M (sX8_runBack M p1).2 := by
  unfold sX8_runBack
  refine tr_if2 (fun c1 => ?_) (fun _ => TR.rf hv)
  refine tr_if2 (fun c2 => ?_) (fun _ => TR.rf hv)
  exact TR_row (MV_back _ hv)
theorem hd_X8_runCheck : yX8_runCheck.cls ≠ "java/lang/invoke/MethodHandle" ∧ yX8_runCheck.cls ≠ "java/lang/invoke/VarHandle" ∧ (parseMethodDescriptor yX8_runCheck.desc).map (fun d => d.parameters.length) = some 1 := by decide +kernel
def sX8_runCheck (M : MS) (p1 : Int32) : Bool × MS := (if (sX8_hasSheet (M.1.2 2) p1) = true then (if (sX8_has ((M.1.2 2) (8 : Int32).toNatClampNeg) p1) = true then ((if (((sX8_goCheck (M.1.2 2) p1)).1) < 0 then false else true), (msA M 2 (((sX8_goCheck (M.1.2 2) p1)).2))) else (false, M)) else (false, M))
set_option maxHeartbeats 4000000 in
set_option maxRecDepth 100000 in
theorem c_X8_runCheck (l : Launch) (D : va_G) (cs : Nat → ClassId) (w : Nat → Nat) (M : MS) (p1 : Int32) (hd : mD w) (hv2 : MV (M.1.2 2)) : Met l yX8_runCheck (wc yX8_runCheck cX8_runCheck 2 (some .boolean)) ({ frames := 2, cells := 0, slots := 0, locals := 46 } : Room) (va_Pc [.ref (w 0), .int p1] (PE D cs (mW cs w M))) (va_Qi (fun (r9 : Int32) (u : MS) => r9 = b2i (sX8_runCheck M p1).1 ∧ u = (sX8_runCheck M p1).2) (fun u t => va_P D vwC (mW cs w u) t.heap) (mA w)) 0 0 (mA w) := by
  obtain ⟨v, hv⟩ : ∃ v, sX8_runCheck M p1 = v := ⟨_, rfl⟩
  rw [hv]
  refine met_o (lv := [(0, .ref (w 0)), (1, .int p1)]) (by decide) (Nat.le_of_ble_eq_true rfl) rfl ?_
  intro p e s m args below meth c ls hx hb hr hml hts hown hlocks hin hP hE hl
  have hown : s.vm.findClass RX8 = some m.cls := hown
  have hK := hE.1
  have hP : va_P D vwC (mW cs w M) s.heap := hP
  have hS : va_S (mA w) s.heap s.heap [] := va_S.rf
  unfold sX8_runCheck at hv
  refine lv_aload_n hx hb dX8_runCheck_0 rfl (lv_at hl 0 rfl) ?_
  refine va_get (D := D) (ci := 8) (v := .ref (w 2)) (C := RX8) (T := TX8) (N := 14) hx hb hts iw_X8 hown hK hP 0 rfl rfl 2 (by decide) (hts _ w_fl_X8_13) (fun _ h9 => h9) rfl dX8_runCheck_1 ?_
  refine lv_iload_n hx hb dX8_runCheck_4 rfl (lv_at hl 1 rfl) ?_
  refine ro_i (b2i (sX8_hasSheet (M.1.2 2) p1)) (run_c (va_runS (As := [.ref (w 2), .int p1]) (rest := []) ⟨hx, hb, hml, hown, hts⟩ (c_X8_hasSheet l D cs (w 2) (M.1.2 2) p1) (cwS 2 hts (good_S w_ml_X8_139 w_st_X8_hasSheet w_in_X8 w_co_X8_hasSheet) rfl rfl rfl ⟨rfl, hd_X8_hasSheet⟩ ⟨Nat.le_of_ble_eq_true rfl, Nat.le_of_ble_eq_true rfl⟩) (pe_S (hP.sub (ws' := rowW cs (w 2) (M.1.2 2)) [2] rfl) hE) rfl rfl hl.1 rfl (lv_room (Nat.le_of_ble_eq_true rfl)) dX8_runCheck_5 ⟨Nat.zero_le _, Nat.zero_le _⟩)) ?_
  refine lv_if_eq (tgt := 40) hx hb dX8_runCheck_8 (by decide) (fun c8 => ?_) (fun c8 => ?_)
  · have c8 := b2i_f c8
    have hv := (if_neg c8).symm.trans hv
    refine lv_iconst (v := 0) hx hb dX8_runCheck_40 (by decide) ?_
    exact W.zret (ty := .boolean) (v := 0) hx hb hr (b2i_nar false) (fun t ht hW => ⟨⟨0, M, rfl, pairb_eq hv, pw ht hP⟩, hS.F ht⟩) hS.2.2 dX8_runCheck_41 (hlocks := hlocks)
  · have c8 := b2i_t c8
    have hv := (if_pos c8).symm.trans hv
    refine lv_aload_n hx hb dX8_runCheck_11 rfl (lv_at hl 0 rfl) ?_
    refine va_get (D := D) (ci := 8) (v := .ref (w 2)) (C := RX8) (T := TX8) (N := 14) hx hb hts iw_X8 hown hK hP 0 rfl rfl 2 (by decide) (hts _ w_fl_X8_13) (fun _ h9 => h9) rfl dX8_runCheck_12 ?_
    refine lv_bipush (v := 8) hx hb dX8_runCheck_15 (by decide) ?_
    refine va_iald (cA := cs 0) (n := 414) (f := (M.1.2 2)) hx hb hK hP 2 0 rfl rfl (by unfold vp_in; decide) dX8_runCheck_17 ?_
    refine lv_iload_n hx hb dX8_runCheck_18 rfl (lv_at hl 1 rfl) ?_
    refine ro_i (b2i (sX8_has ((M.1.2 2) (8 : Int32).toNatClampNeg) p1)) (run_c (va_runS (As := [.int ((M.1.2 2) (8 : Int32).toNatClampNeg), .int p1]) (rest := []) ⟨hx, hb, hml, hown, hts⟩ (c_X8_has l D cs ((M.1.2 2) (8 : Int32).toNatClampNeg) p1) (cwS 2 hts (good_S w_ml_X8_66 w_st_X8_has w_in_X8 w_co_X8_has) rfl rfl rfl ⟨rfl, hd_X8_has⟩ ⟨Nat.le_of_ble_eq_true rfl, Nat.le_of_ble_eq_true rfl⟩) (pe_S (p_nil D _) hE) rfl rfl hl.1 rfl (lv_room (Nat.le_of_ble_eq_true rfl)) dX8_runCheck_19 ⟨Nat.zero_le _, Nat.zero_le _⟩)) ?_
    refine lv_if_eq (tgt := 40) hx hb dX8_runCheck_22 (by decide) (fun c22 => ?_) (fun c22 => ?_)
    · have c22 := b2i_f c22
      have hv := (if_neg c22).symm.trans hv
      refine lv_iconst (v := 0) hx hb dX8_runCheck_40 (by decide) ?_
      exact W.zret (ty := .boolean) (v := 0) hx hb hr (b2i_nar false) (fun t ht hW => ⟨⟨0, M, rfl, pairb_eq hv, pw ht hP⟩, hS.F ht⟩) hS.2.2 dX8_runCheck_41 (hlocks := hlocks)
    · have c22 := b2i_t c22
      have hv := (if_pos c22).symm.trans hv
      refine lv_aload_n hx hb dX8_runCheck_25 rfl (lv_at hl 0 rfl) ?_
      refine va_get (D := D) (ci := 8) (v := .ref (w 2)) (C := RX8) (T := TX8) (N := 14) hx hb hts iw_X8 hown hK hP 0 rfl rfl 2 (by decide) (hts _ w_fl_X8_13) (fun _ h9 => h9) rfl dX8_runCheck_26 ?_
      refine lv_iload_n hx hb dX8_runCheck_29 rfl (lv_at hl 1 rfl) ?_
      obtain ⟨G30, hG30⟩ : ∃ G, sX8_goCheck (M.1.2 2) p1 = G := ⟨_, rfl⟩
      have k30 := (c_X8_goCheck l D cs (w 2) (M.1.2 2) p1)
      rw [hG30] at k30
      rw [hG30] at hv
      refine w_i (G30) (va_runS (As := [.ref (w 2), .int p1]) (rest := []) ⟨hx, hb, hml, hown, hts⟩ k30 (cwS 2 hts (good_S w_ml_X8_254 w_st_X8_goCheck w_in_X8 w_co_X8_goCheck) rfl rfl rfl ⟨rfl, hd_X8_goCheck⟩ ⟨Nat.le_of_ble_eq_true rfl, Nat.le_of_ble_eq_true rfl⟩) (pe_S (hP.sub (ws' := rowW cs (w 2) (M.1.2 2)) [2] rfl) hE) rfl rfl hl.1 rfl (lv_room (Nat.le_of_ble_eq_true rfl)) dX8_runCheck_30 ⟨Nat.zero_le _, Nat.zero_le _⟩) hS (fun _ _ h => ⟨2, by decide, h⟩) (fun _ h => ⟨2, by decide, h⟩) (fun t locs hB hz hk hS => ?_)
      have hP : va_P D vwC (mW cs w (msA M 2 ((G30).2))) t.heap := m_up2 hd hP hk hB
      refine join_i (J := 41) (ls := ls) (rest := []) (b2i (if ((G30).1) < 0 then false else true)) ?_ (fun hJ => ?_)
      · exact W.zret (ty := .boolean) (v := b2i (if ((G30).1) < 0 then false else true)) hx hb hr (b2i_nar (if ((G30).1) < 0 then false else true)) (fun t ht hW => ⟨⟨b2i (if ((G30).1) < 0 then false else true), (msA M 2 ((G30).2)), rfl, pairb_eq hv, pw ht hP⟩, hS.F ht⟩) hS.2.2 dX8_runCheck_41 (hlocks := hlocks)
      · refine lv_if_lt (tgt := 40) hx hb dX8_runCheck_33 (by decide) (fun c33 => ?_) (fun c33 => ?_)
        · refine lv_iconst (v := 0) hx hb dX8_runCheck_40 (by decide) ?_
          exact hJ _ (congrArg b2i ((if_pos c33).trans rfl))
        · refine lv_iconst (v := 1) hx hb dX8_runCheck_36 (by decide) ?_
          refine lv_goto (tgt := 41) hx hb dX8_runCheck_37 (by decide) ?_
          exact hJ _ (congrArg b2i ((if_neg c33).trans rfl))
theorem TR_runCheck {M : MS} (p1 : Int32) (hv : MV (M.1.2 2)) : TR M (sX8_runCheck M p1).2 := by
  unfold sX8_runCheck
  refine tr_if2 (fun c1 => ?_) (fun _ => TR.rf hv)
  refine tr_if2 (fun c2 => ?_) (fun _ => TR.rf hv)
  exact TR_row (MV_check _ hv)
theorem hd_X8_runDays : yX8_runDays.cls ≠ "java/lang/invoke/MethodHandle" ∧ yX8_runDays.cls ≠ "java/lang/invoke/VarHandle" ∧ (parseMethodDescriptor yX8_runDays.desc).map (fun d => d.parameters.length) = some 1 := by decide +kernel
def sX8_runDays (M : MS) (p1 : Int32) : Bool × MS := (if (sX8_in p1.toInt64 (1 : Int64) (30 : Int64)) = true then ((if (((sX8_goRun (M.1.2 2) p1)).1) < 0 then false else true), (msA M 2 (((sX8_goRun (M.1.2 2) p1)).2))) else (false, M))
set_option maxHeartbeats 4000000 in
set_option maxRecDepth 100000 in
theorem c_X8_runDays (l : Launch) (D : va_G) (cs : Nat → ClassId) (w : Nat → Nat) (M : MS) (p1 : Int32) (hd : mD w) (hv2 : MV (M.1.2 2)) : Met l yX8_runDays (wc yX8_runDays cX8_runDays 2 (some .boolean)) ({ frames := 5, cells := 0, slots := 0, locals := 110 } : Room) (va_Pc [.ref (w 0), .int p1] (PE D cs (mW cs w M))) (va_Qi (fun (r9 : Int32) (u : MS) => r9 = b2i (sX8_runDays M p1).1 ∧ u = (sX8_runDays M p1).2) (fun u t => va_P D vwC (mW cs w u) t.heap) (mA w)) 0 0 (mA w) := by
  obtain ⟨v, hv⟩ : ∃ v, sX8_runDays M p1 = v := ⟨_, rfl⟩
  rw [hv]
  refine met_o (lv := [(0, .ref (w 0)), (1, .int p1)]) (by decide) (Nat.le_of_ble_eq_true rfl) rfl ?_
  intro p e s m args below meth c ls hx hb hr hml hts hown hlocks hin hP hE hl
  have hown : s.vm.findClass RX8 = some m.cls := hown
  have hK := hE.1
  have hP : va_P D vwC (mW cs w M) s.heap := hP
  have hS : va_S (mA w) s.heap s.heap [] := va_S.rf
  unfold sX8_runDays at hv
  refine lv_iload_n hx hb dX8_runDays_0 rfl (lv_at hl 1 rfl) ?_
  refine lv_i2l hx hb dX8_runDays_1 rfl ?_
  refine lv_lconst (v := 1) hx hb dX8_runDays_2 (by decide) ?_
  refine lv_ldc2 (v := 30) hx hb hown (hts _ w_cn_X8_275) dX8_runDays_3 ?_
  refine ro_i (b2i (sX8_in p1.toInt64 (1 : Int64) (30 : Int64))) (run_c (va_runS (As := [.long p1.toInt64, .long (1 : Int64), .long (30 : Int64)]) (rest := []) ⟨hx, hb, hml, hown, hts⟩ (c_X8_in l D cs p1.toInt64 (1 : Int64) (30 : Int64)) (cwS 3 hts (good_S w_ml_X8_42 w_st_X8_in w_in_X8 w_co_X8_in) rfl rfl rfl ⟨rfl, hd_X8_in⟩ ⟨Nat.le_of_ble_eq_true rfl, Nat.le_of_ble_eq_true rfl⟩) (pe_S (p_nil D _) hE) rfl rfl hl.1 rfl (lv_room (Nat.le_of_ble_eq_true rfl)) dX8_runDays_6 ⟨Nat.zero_le _, Nat.zero_le _⟩)) ?_
  refine lv_if_eq (tgt := 27) hx hb dX8_runDays_9 (by decide) (fun c9 => ?_) (fun c9 => ?_)
  · have c9 := b2i_f c9
    have hv := (if_neg c9).symm.trans hv
    refine lv_iconst (v := 0) hx hb dX8_runDays_27 (by decide) ?_
    exact W.zret (ty := .boolean) (v := 0) hx hb hr (b2i_nar false) (fun t ht hW => ⟨⟨0, M, rfl, pairb_eq hv, pw ht hP⟩, hS.F ht⟩) hS.2.2 dX8_runDays_28 (hlocks := hlocks)
  · have c9 := b2i_t c9
    have hv := (if_pos c9).symm.trans hv
    refine lv_aload_n hx hb dX8_runDays_12 rfl (lv_at hl 0 rfl) ?_
    refine va_get (D := D) (ci := 8) (v := .ref (w 2)) (C := RX8) (T := TX8) (N := 14) hx hb hts iw_X8 hown hK hP 0 rfl rfl 2 (by decide) (hts _ w_fl_X8_13) (fun _ h9 => h9) rfl dX8_runDays_13 ?_
    refine lv_iload_n hx hb dX8_runDays_16 rfl (lv_at hl 1 rfl) ?_
    obtain ⟨G17, hG17⟩ : ∃ G, sX8_goRun (M.1.2 2) p1 = G := ⟨_, rfl⟩
    have k17 := (c_X8_goRun l D cs (w 2) (M.1.2 2) p1 hv2.2.1.2)
    rw [hG17] at k17
    rw [hG17] at hv
    refine w_i (G17) (va_runS (As := [.ref (w 2), .int p1]) (rest := []) ⟨hx, hb, hml, hown, hts⟩ k17 (cwS 2 hts (good_S w_ml_X8_169 w_st_X8_goRun w_in_X8 w_co_X8_goRun) rfl rfl rfl ⟨rfl, hd_X8_goRun⟩ ⟨Nat.le_of_ble_eq_true rfl, Nat.le_of_ble_eq_true rfl⟩) (pe_S (hP.sub (ws' := rowW cs (w 2) (M.1.2 2)) [2] rfl) hE) rfl rfl hl.1 rfl (lv_room (Nat.le_of_ble_eq_true rfl)) dX8_runDays_17 ⟨Nat.zero_le _, Nat.zero_le _⟩) hS (fun _ _ h => ⟨2, by decide, h⟩) (fun _ h => ⟨2, by decide, h⟩) (fun t locs hB hz hk hS => ?_)
    have hP : va_P D vwC (mW cs w (msA M 2 ((G17).2))) t.heap := m_up2 hd hP hk hB
    refine join_i (J := 28) (ls := ls) (rest := []) (b2i (if ((G17).1) < 0 then false else true)) ?_ (fun hJ => ?_)
    · exact W.zret (ty := .boolean) (v := b2i (if ((G17).1) < 0 then false else true)) hx hb hr (b2i_nar (if ((G17).1) < 0 then false else true)) (fun t ht hW => ⟨⟨b2i (if ((G17).1) < 0 then false else true), (msA M 2 ((G17).2)), rfl, pairb_eq hv, pw ht hP⟩, hS.F ht⟩) hS.2.2 dX8_runDays_28 (hlocks := hlocks)
    · refine lv_if_lt (tgt := 27) hx hb dX8_runDays_20 (by decide) (fun c20 => ?_) (fun c20 => ?_)
      · refine lv_iconst (v := 0) hx hb dX8_runDays_27 (by decide) ?_
        exact hJ _ (congrArg b2i ((if_pos c20).trans rfl))
      · refine lv_iconst (v := 1) hx hb dX8_runDays_23 (by decide) ?_
        refine lv_goto (tgt := 28) hx hb dX8_runDays_24 (by decide) ?_
        exact hJ _ (congrArg b2i ((if_neg c20).trans rfl))
theorem TR_runDays {M : MS} (p1 : Int32) (hv : MV (M.1.2 2)) : TR M (sX8_runDays M p1).2 := by
  unfold sX8_runDays
  refine tr_if2 (fun c1 => ?_) (fun _ => TR.rf hv)
  exact TR_row (MV_run _ hv)
theorem hd_X8_command : yX8_command.cls ≠ "java/lang/invoke/MethodHandle" ∧ yX8_command.cls ≠ "java/lang/invoke/VarHandle" ∧ (parseMethodDescriptor yX8_command.desc).map (fun d => d.parameters.length) = some 1 := by decide +kernel
def sX8_command (M : MS) (p1 : Int32) : Bool × MS := (if (p1 / 100000) = 1 then (if ((p1 / 1000) - (p1 / 1000) / 10 * 10) = 0 then (if (p1 - p1 / 10 * 10) = 0 then ((if (((sX8_runRevise M ((p1 / 10000) - (p1 / 10000) / 10 * 10) ((p1 / 10) - (p1 / 10) / 100 * 100))).1) = true then true else false), (((sX8_runRevise M ((p1 / 10000) - (p1 / 10000) / 10 * 10) ((p1 / 10) - (p1 / 10) / 100 * 100))).2)) else (false, M)) else (false, M)) else (if (p1 / 100000) = 2 then (if (p1 - p1 / 1000 * 1000) = 0 then ((if (((sX8_runPrint M ((p1 / 10000) - (p1 / 10000) / 10 * 10) ((p1 / 1000) - (p1 / 1000) / 10 * 10))).1) = true then true else false), (((sX8_runPrint M ((p1 / 10000) - (p1 / 10000) / 10 * 10) ((p1 / 1000) - (p1 / 1000) / 10 * 10))).2)) else (false, M)) else (if (p1 / 100000) = 3 then (if (p1 - p1 / 100 * 100) = 0 then ((if (((sX8_runStamp M ((p1 / 1000) - (p1 / 1000) / 100 * 100) ((p1 / 100) - (p1 / 100) / 10 * 10))).1) = true then true else false), (((sX8_runStamp M ((p1 / 1000) - (p1 / 1000) / 100 * 100) ((p1 / 100) - (p1 / 100) / 10 * 10))).2)) else (false, M)) else (if (p1 / 100000) = 4 then (if (p1 - p1 / 10 * 10) = 0 then ((if (((sX8_runBuild M ((p1 / 1000) - (p1 / 1000) / 100 * 100) ((p1 / 10) - (p1 / 10) / 100 * 100))).1) = true then true else false), (((sX8_runBuild M ((p1 / 1000) - (p1 / 1000) / 100 * 100) ((p1 / 10) - (p1 / 10) / 100 * 100))).2)) else (false, M)) else (if (p1 / 100000) = 5 then (if 100 ≤ (p1 - p1 / 100000 * 100000) then (false, M) else ((if (((sX8_runDays M (p1 - p1 / 100 * 100))).1) = true then true else false), (((sX8_runDays M (p1 - p1 / 100 * 100))).2))) else (if (p1 / 100000) = 6 then (if (p1 - p1 / 1000 * 1000) = 0 then ((if (((sX8_runBack M ((p1 / 1000) - (p1 / 1000) / 100 * 100))).1) = true then true else false), (((sX8_runBack M ((p1 / 1000) - (p1 / 1000) / 100 * 100))).2)) else (false, M)) else (if (p1 / 100000) = 7 then (if (p1 - p1 / 10000 * 10000) = 0 then ((if (((sX8_runCheck M ((p1 / 10000) - (p1 / 10000) / 10 * 10))).1) = true then true else false), (((sX8_runCheck M ((p1 / 10000) - (p1 / 10000) / 10 * 10))).2)) else (false, M)) else (if (p1 / 100000) = 8 then ((if 100 ≤ (p1 - p1 / 100000 * 100000) then false else (if (p1 - p1 / 100 * 100) < (sX8_wrong (M.1.2 2)) then false else true)), M) else (if (p1 / 100000) = 9 then ((if 2 ≤ (p1 - p1 / 1000 * 1000) then false else (if (sX8_hasPrint (M.1.2 2) ((p1 / 1000) - (p1 / 1000) / 100 * 100)) = true then (if (sX8_mayBuild (M.1.2 2) ((p1 / 1000) - (p1 / 1000) / 100 * 100)) = true then (if (p1 - p1 / 10 * 10) = 1 then true else false) else (if (p1 - p1 / 10 * 10) = 0 then true else false)) else false)), M) else (false, M))))))))))
set_option maxHeartbeats 4000000 in
set_option maxRecDepth 100000 in
theorem c_X8_command (l : Launch) (D : va_G) (cs : Nat → ClassId) (w : Nat → Nat) (M : MS) (p1 : Int32) (hd : mD w) (hv2 : MV (M.1.2 2)) : Met l yX8_command (wc yX8_command cX8_command 7 (some .boolean)) ({ frames := 6, cells := 0, slots := 0, locals := 131 } : Room) (va_Pc [.ref (w 0), .int p1] (PE D cs (mW cs w M))) (va_Qi (fun (r9 : Int32) (u : MS) => r9 = b2i (sX8_command M p1).1 ∧ u = (sX8_command M p1).2) (fun u t => va_P D vwC (mW cs w u) t.heap) (mA w)) 0 0 (mA w) := by
  obtain ⟨v, hv⟩ : ∃ v, sX8_command M p1 = v := ⟨_, rfl⟩
  rw [hv]
  refine met_o (lv := [(0, .ref (w 0)), (1, .int p1)]) (by decide) (Nat.le_of_ble_eq_true rfl) rfl ?_
  intro p e s m args below meth c ls hx hb hr hml hts hown hlocks hin hP hE hl
  have hown : s.vm.findClass RX8 = some m.cls := hown
  have hK := hE.1
  have hP : va_P D vwC (mW cs w M) s.heap := hP
  have hS : va_S (mA w) s.heap s.heap [] := va_S.rf
  unfold sX8_command at hv
  refine lv_iload_n hx hb dX8_command_0 rfl (lv_at hl 1 rfl) ?_
  refine lv_sipush (v := 10000) hx hb dX8_command_1 (by decide) ?_
  refine lv_idiv hx hb dX8_command_4 (by decide) ?_
  refine lv_bipush (v := 10) hx hb dX8_command_5 (by decide) ?_
  refine lv_irem hx hb dX8_command_7 (by decide) ?_
  refine lv_istore_n (lv' := [(2, .int ((p1 / 10000) - (p1 / 10000) / 10 * 10)), (0, .ref (w 0)), (1, .int p1)]) hx hb dX8_command_8 rfl hl (by decide) rfl (fun ls hl => ?_)
  refine lv_iload_n hx hb dX8_command_9 rfl (lv_at hl 2 rfl) ?_
  refine lv_sipush (v := 1000) hx hb dX8_command_10 (by decide) ?_
  refine lv_idiv hx hb dX8_command_13 (by decide) ?_
  refine lv_bipush (v := 100) hx hb dX8_command_14 (by decide) ?_
  refine lv_irem hx hb dX8_command_16 (by decide) ?_
  refine lv_istore_n (lv' := [(3, .int ((p1 / 1000) - (p1 / 1000) / 100 * 100)), (2, .int ((p1 / 10000) - (p1 / 10000) / 10 * 10)), (0, .ref (w 0)), (1, .int p1)]) hx hb dX8_command_17 rfl hl (by decide) rfl (fun ls hl => ?_)
  refine lv_iload_n hx hb dX8_command_18 rfl (lv_at hl 3 rfl) ?_
  refine lv_sipush (v := 1000) hx hb dX8_command_19 (by decide) ?_
  refine lv_irem hx hb dX8_command_22 (by decide) ?_
  refine lv_istore (lv' := [(4, .int (p1 - p1 / 1000 * 1000)), (3, .int ((p1 / 1000) - (p1 / 1000) / 100 * 100)), (2, .int ((p1 / 10000) - (p1 / 10000) / 10 * 10)), (0, .ref (w 0)), (1, .int p1)]) hx hb dX8_command_23 hl (by decide) rfl (fun ls hl => ?_)
  refine lv_iload_n hx hb dX8_command_25 rfl (lv_at hl 4 rfl) ?_
  refine lv_bipush (v := 100) hx hb dX8_command_26 (by decide) ?_
  refine lv_irem hx hb dX8_command_28 (by decide) ?_
  refine lv_istore (lv' := [(5, .int (p1 - p1 / 100 * 100)), (4, .int (p1 - p1 / 1000 * 1000)), (3, .int ((p1 / 1000) - (p1 / 1000) / 100 * 100)), (2, .int ((p1 / 10000) - (p1 / 10000) / 10 * 10)), (0, .ref (w 0)), (1, .int p1)]) hx hb dX8_command_29 hl (by decide) rfl (fun ls hl => ?_)
  refine lv_iload_n hx hb dX8_command_31 rfl (lv_at hl 5 rfl) ?_
  refine lv_bipush (v := 10) hx hb dX8_command_32 (by decide) ?_
  refine lv_irem hx hb dX8_command_34 (by decide) ?_
  refine lv_istore (lv' := [(6, .int (p1 - p1 / 10 * 10)), (5, .int (p1 - p1 / 100 * 100)), (4, .int (p1 - p1 / 1000 * 1000)), (3, .int ((p1 / 1000) - (p1 / 1000) / 100 * 100)), (2, .int ((p1 / 10000) - (p1 / 10000) / 10 * 10)), (0, .ref (w 0)), (1, .int p1)]) hx hb dX8_command_35 hl (by decide) rfl (fun ls hl => ?_)
  refine lv_iload_n hx hb dX8_command_37 rfl (lv_at hl 6 rfl) ?_
  refine lv_ldcw (v := 100000) hx hb hown (hts _ w_cn_X8_292) dX8_command_38 ?_
  refine lv_idiv hx hb dX8_command_41 (by decide) ?_
  by_cases c42_0 : (p1 / 100000) = 1
  · have hv := (if_pos c42_0).symm.trans hv
    refine lv_tableIn (off := 50) (tgt := 92) hx hb dX8_command_42 (by rw [c42_0]; decide) (by rw [c42_0]; decide) (by rw [c42_0]; rfl) (by decide) ?_
    refine lv_iload_n hx hb dX8_command_92 rfl (lv_at hl 6 rfl) ?_
    refine lv_sipush (v := 1000) hx hb dX8_command_93 (by decide) ?_
    refine lv_idiv hx hb dX8_command_96 (by decide) ?_
    refine lv_bipush (v := 10) hx hb dX8_command_97 (by decide) ?_
    refine lv_irem hx hb dX8_command_99 (by decide) ?_
    refine lv_if_ne (tgt := 127) hx hb dX8_command_100 (by decide) (fun c100 => ?_) (fun c100 => ?_)
    · have hv := (if_neg c100).symm.trans hv
      refine lv_iconst (v := 0) hx hb dX8_command_127 (by decide) ?_
      exact W.zret (ty := .boolean) (v := 0) hx hb hr (b2i_nar false) (fun t ht hW => ⟨⟨0, M, rfl, pairb_eq hv, pw ht hP⟩, hS.F ht⟩) hS.2.2 dX8_command_128 (hlocks := hlocks)
    · have hv := (if_pos c100).symm.trans hv
      refine lv_iload hx hb dX8_command_103 (lv_at hl 0 rfl) ?_
      refine lv_if_ne (tgt := 127) hx hb dX8_command_105 (by decide) (fun c105 => ?_) (fun c105 => ?_)
      · have hv := (if_neg c105).symm.trans hv
        refine lv_iconst (v := 0) hx hb dX8_command_127 (by decide) ?_
        exact W.zret (ty := .boolean) (v := 0) hx hb hr (b2i_nar false) (fun t ht hW => ⟨⟨0, M, rfl, pairb_eq hv, pw ht hP⟩, hS.F ht⟩) hS.2.2 dX8_command_128 (hlocks := hlocks)
      · have hv := (if_pos c105).symm.trans hv
        refine lv_aload_n hx hb dX8_command_108 rfl (lv_at hl 5 rfl) ?_
        refine lv_iload_n hx hb dX8_command_109 rfl (lv_at hl 4 rfl) ?_
        refine lv_iload_n hx hb dX8_command_110 rfl (lv_at hl 6 rfl) ?_
        refine lv_bipush (v := 10) hx hb dX8_command_111 (by decide) ?_
        refine lv_idiv hx hb dX8_command_113 (by decide) ?_
        refine lv_bipush (v := 100) hx hb dX8_command_114 (by decide) ?_
        refine lv_irem hx hb dX8_command_116 (by decide) ?_
        obtain ⟨G117, hG117⟩ : ∃ G, sX8_runRevise M ((p1 / 10000) - (p1 / 10000) / 10 * 10) ((p1 / 10) - (p1 / 10) / 100 * 100) = G := ⟨_, rfl⟩
        have k117 := (c_X8_runRevise l D cs w M ((p1 / 10000) - (p1 / 10000) / 10 * 10) ((p1 / 10) - (p1 / 10) / 100 * 100) hd hv2)
        rw [hG117] at k117
        rw [hG117] at hv
        refine w_b (G117) (va_runV (As := [.int ((p1 / 10000) - (p1 / 10000) / 10 * 10), .int ((p1 / 10) - (p1 / 10) / 100 * 100)]) (rest := []) ⟨hx, hb, hml, hown, hts⟩ k117 (cwV 2 hts (good_V w_ml_X8_293 w_im_X8_runRevise w_se_X8_runRevise w_in_X8 w_co_X8_runRevise) rfl rfl rfl ⟨rfl, hd_X8_runRevise⟩ ⟨Nat.le_of_ble_eq_true rfl, Nat.le_of_ble_eq_true rfl⟩) (pe_W (C := RX8) (T := TX8) (N := 14) (ci := 8) (q0 := 0) hP hE rfl rfl) rfl rfl hl.1 rfl (lv_room (Nat.le_of_ble_eq_true rfl)) dX8_command_117 ⟨Nat.zero_le _, Nat.zero_le _⟩) hS (fun _ _ h => h) (fun _ h => h) (fun t locs hB hz hk hS => ?_)
        have hP : va_P D vwC (mW cs w ((G117).2)) t.heap := hB
        refine join_i (J := 128) (ls := ls) (rest := []) (b2i (if ((G117).1) = true then true else false)) ?_ (fun hJ => ?_)
        · exact W.zret (ty := .boolean) (v := b2i (if ((G117).1) = true then true else false)) hx hb hr (b2i_nar (if ((G117).1) = true then true else false)) (fun t ht hW => ⟨⟨b2i (if ((G117).1) = true then true else false), ((G117).2), rfl, pairb_eq hv, pw ht hP⟩, hS.F ht⟩) hS.2.2 dX8_command_128 (hlocks := hlocks)
        · refine lv_if_eq (tgt := 127) hx hb dX8_command_120 (by decide) (fun c120 => ?_) (fun c120 => ?_)
          · have c120 := b2i_f c120
            refine lv_iconst (v := 0) hx hb dX8_command_127 (by decide) ?_
            exact hJ _ (congrArg b2i ((if_neg c120).trans rfl))
          · have c120 := b2i_t c120
            refine lv_iconst (v := 1) hx hb dX8_command_123 (by decide) ?_
            refine lv_goto (tgt := 128) hx hb dX8_command_124 (by decide) ?_
            exact hJ _ (congrArg b2i ((if_pos c120).trans rfl))
  · have hv := (if_neg c42_0).symm.trans hv
    by_cases c42_1 : (p1 / 100000) = 2
    · have hv := (if_pos c42_1).symm.trans hv
      refine lv_tableIn (off := 87) (tgt := 129) hx hb dX8_command_42 (by rw [c42_1]; decide) (by rw [c42_1]; decide) (by rw [c42_1]; rfl) (by decide) ?_
      refine lv_iload hx hb dX8_command_129 (lv_at hl 2 rfl) ?_
      refine lv_if_ne (tgt := 154) hx hb dX8_command_131 (by decide) (fun c131 => ?_) (fun c131 => ?_)
      · have hv := (if_neg c131).symm.trans hv
        refine lv_iconst (v := 0) hx hb dX8_command_154 (by decide) ?_
        exact W.zret (ty := .boolean) (v := 0) hx hb hr (b2i_nar false) (fun t ht hW => ⟨⟨0, M, rfl, pairb_eq hv, pw ht hP⟩, hS.F ht⟩) hS.2.2 dX8_command_155 (hlocks := hlocks)
      · have hv := (if_pos c131).symm.trans hv
        refine lv_aload_n hx hb dX8_command_134 rfl (lv_at hl 5 rfl) ?_
        refine lv_iload_n hx hb dX8_command_135 rfl (lv_at hl 4 rfl) ?_
        refine lv_iload_n hx hb dX8_command_136 rfl (lv_at hl 6 rfl) ?_
        refine lv_sipush (v := 1000) hx hb dX8_command_137 (by decide) ?_
        refine lv_idiv hx hb dX8_command_140 (by decide) ?_
        refine lv_bipush (v := 10) hx hb dX8_command_141 (by decide) ?_
        refine lv_irem hx hb dX8_command_143 (by decide) ?_
        obtain ⟨G144, hG144⟩ : ∃ G, sX8_runPrint M ((p1 / 10000) - (p1 / 10000) / 10 * 10) ((p1 / 1000) - (p1 / 1000) / 10 * 10) = G := ⟨_, rfl⟩
        have k144 := (c_X8_runPrint l D cs w M ((p1 / 10000) - (p1 / 10000) / 10 * 10) ((p1 / 1000) - (p1 / 1000) / 10 * 10) hd hv2)
        rw [hG144] at k144
        rw [hG144] at hv
        refine w_b (G144) (va_runV (As := [.int ((p1 / 10000) - (p1 / 10000) / 10 * 10), .int ((p1 / 1000) - (p1 / 1000) / 10 * 10)]) (rest := []) ⟨hx, hb, hml, hown, hts⟩ k144 (cwV 2 hts (good_V w_ml_X8_296 w_im_X8_runPrint w_se_X8_runPrint w_in_X8 w_co_X8_runPrint) rfl rfl rfl ⟨rfl, hd_X8_runPrint⟩ ⟨Nat.le_of_ble_eq_true rfl, Nat.le_of_ble_eq_true rfl⟩) (pe_W (C := RX8) (T := TX8) (N := 14) (ci := 8) (q0 := 0) hP hE rfl rfl) rfl rfl hl.1 rfl (lv_room (Nat.le_of_ble_eq_true rfl)) dX8_command_144 ⟨Nat.zero_le _, Nat.zero_le _⟩) hS (fun _ _ h => h) (fun _ h => h) (fun t locs hB hz hk hS => ?_)
        have hP : va_P D vwC (mW cs w ((G144).2)) t.heap := hB
        refine join_i (J := 155) (ls := ls) (rest := []) (b2i (if ((G144).1) = true then true else false)) ?_ (fun hJ => ?_)
        · exact W.zret (ty := .boolean) (v := b2i (if ((G144).1) = true then true else false)) hx hb hr (b2i_nar (if ((G144).1) = true then true else false)) (fun t ht hW => ⟨⟨b2i (if ((G144).1) = true then true else false), ((G144).2), rfl, pairb_eq hv, pw ht hP⟩, hS.F ht⟩) hS.2.2 dX8_command_155 (hlocks := hlocks)
        · refine lv_if_eq (tgt := 154) hx hb dX8_command_147 (by decide) (fun c147 => ?_) (fun c147 => ?_)
          · have c147 := b2i_f c147
            refine lv_iconst (v := 0) hx hb dX8_command_154 (by decide) ?_
            exact hJ _ (congrArg b2i ((if_neg c147).trans rfl))
          · have c147 := b2i_t c147
            refine lv_iconst (v := 1) hx hb dX8_command_150 (by decide) ?_
            refine lv_goto (tgt := 155) hx hb dX8_command_151 (by decide) ?_
            exact hJ _ (congrArg b2i ((if_pos c147).trans rfl))
    · have hv := (if_neg c42_1).symm.trans hv
      by_cases c42_2 : (p1 / 100000) = 3
      · have hv := (if_pos c42_2).symm.trans hv
        refine lv_tableIn (off := 114) (tgt := 156) hx hb dX8_command_42 (by rw [c42_2]; decide) (by rw [c42_2]; decide) (by rw [c42_2]; rfl) (by decide) ?_
        refine lv_iload hx hb dX8_command_156 (lv_at hl 1 rfl) ?_
        refine lv_if_ne (tgt := 180) hx hb dX8_command_158 (by decide) (fun c158 => ?_) (fun c158 => ?_)
        · have hv := (if_neg c158).symm.trans hv
          refine lv_iconst (v := 0) hx hb dX8_command_180 (by decide) ?_
          exact W.zret (ty := .boolean) (v := 0) hx hb hr (b2i_nar false) (fun t ht hW => ⟨⟨0, M, rfl, pairb_eq hv, pw ht hP⟩, hS.F ht⟩) hS.2.2 dX8_command_181 (hlocks := hlocks)
        · have hv := (if_pos c158).symm.trans hv
          refine lv_aload_n hx hb dX8_command_161 rfl (lv_at hl 5 rfl) ?_
          refine lv_iload_n hx hb dX8_command_162 rfl (lv_at hl 3 rfl) ?_
          refine lv_iload_n hx hb dX8_command_163 rfl (lv_at hl 6 rfl) ?_
          refine lv_bipush (v := 100) hx hb dX8_command_164 (by decide) ?_
          refine lv_idiv hx hb dX8_command_166 (by decide) ?_
          refine lv_bipush (v := 10) hx hb dX8_command_167 (by decide) ?_
          refine lv_irem hx hb dX8_command_169 (by decide) ?_
          obtain ⟨G170, hG170⟩ : ∃ G, sX8_runStamp M ((p1 / 1000) - (p1 / 1000) / 100 * 100) ((p1 / 100) - (p1 / 100) / 10 * 10) = G := ⟨_, rfl⟩
          have k170 := (c_X8_runStamp l D cs w M ((p1 / 1000) - (p1 / 1000) / 100 * 100) ((p1 / 100) - (p1 / 100) / 10 * 10) hd hv2)
          rw [hG170] at k170
          rw [hG170] at hv
          refine w_b (G170) (va_runV (As := [.int ((p1 / 1000) - (p1 / 1000) / 100 * 100), .int ((p1 / 100) - (p1 / 100) / 10 * 10)]) (rest := []) ⟨hx, hb, hml, hown, hts⟩ k170 (cwV 2 hts (good_V w_ml_X8_299 w_im_X8_runStamp w_se_X8_runStamp w_in_X8 w_co_X8_runStamp) rfl rfl rfl ⟨rfl, hd_X8_runStamp⟩ ⟨Nat.le_of_ble_eq_true rfl, Nat.le_of_ble_eq_true rfl⟩) (pe_W (C := RX8) (T := TX8) (N := 14) (ci := 8) (q0 := 0) hP hE rfl rfl) rfl rfl hl.1 rfl (lv_room (Nat.le_of_ble_eq_true rfl)) dX8_command_170 ⟨Nat.zero_le _, Nat.zero_le _⟩) hS (fun _ _ h => h) (fun _ h => h) (fun t locs hB hz hk hS => ?_)
          have hP : va_P D vwC (mW cs w ((G170).2)) t.heap := hB
          refine join_i (J := 181) (ls := ls) (rest := []) (b2i (if ((G170).1) = true then true else false)) ?_ (fun hJ => ?_)
          · exact W.zret (ty := .boolean) (v := b2i (if ((G170).1) = true then true else false)) hx hb hr (b2i_nar (if ((G170).1) = true then true else false)) (fun t ht hW => ⟨⟨b2i (if ((G170).1) = true then true else false), ((G170).2), rfl, pairb_eq hv, pw ht hP⟩, hS.F ht⟩) hS.2.2 dX8_command_181 (hlocks := hlocks)
          · refine lv_if_eq (tgt := 180) hx hb dX8_command_173 (by decide) (fun c173 => ?_) (fun c173 => ?_)
            · have c173 := b2i_f c173
              refine lv_iconst (v := 0) hx hb dX8_command_180 (by decide) ?_
              exact hJ _ (congrArg b2i ((if_neg c173).trans rfl))
            · have c173 := b2i_t c173
              refine lv_iconst (v := 1) hx hb dX8_command_176 (by decide) ?_
              refine lv_goto (tgt := 181) hx hb dX8_command_177 (by decide) ?_
              exact hJ _ (congrArg b2i ((if_pos c173).trans rfl))
      · have hv := (if_neg c42_2).symm.trans hv
        by_cases c42_3 : (p1 / 100000) = 4
        · have hv := (if_pos c42_3).symm.trans hv
          refine lv_tableIn (off := 140) (tgt := 182) hx hb dX8_command_42 (by rw [c42_3]; decide) (by rw [c42_3]; decide) (by rw [c42_3]; rfl) (by decide) ?_
          refine lv_iload hx hb dX8_command_182 (lv_at hl 0 rfl) ?_
          refine lv_if_ne (tgt := 206) hx hb dX8_command_184 (by decide) (fun c184 => ?_) (fun c184 => ?_)
          · have hv := (if_neg c184).symm.trans hv
            refine lv_iconst (v := 0) hx hb dX8_command_206 (by decide) ?_
            exact W.zret (ty := .boolean) (v := 0) hx hb hr (b2i_nar false) (fun t ht hW => ⟨⟨0, M, rfl, pairb_eq hv, pw ht hP⟩, hS.F ht⟩) hS.2.2 dX8_command_207 (hlocks := hlocks)
          · have hv := (if_pos c184).symm.trans hv
            refine lv_aload_n hx hb dX8_command_187 rfl (lv_at hl 5 rfl) ?_
            refine lv_iload_n hx hb dX8_command_188 rfl (lv_at hl 3 rfl) ?_
            refine lv_iload_n hx hb dX8_command_189 rfl (lv_at hl 6 rfl) ?_
            refine lv_bipush (v := 10) hx hb dX8_command_190 (by decide) ?_
            refine lv_idiv hx hb dX8_command_192 (by decide) ?_
            refine lv_bipush (v := 100) hx hb dX8_command_193 (by decide) ?_
            refine lv_irem hx hb dX8_command_195 (by decide) ?_
            obtain ⟨G196, hG196⟩ : ∃ G, sX8_runBuild M ((p1 / 1000) - (p1 / 1000) / 100 * 100) ((p1 / 10) - (p1 / 10) / 100 * 100) = G := ⟨_, rfl⟩
            have k196 := (c_X8_runBuild l D cs w M ((p1 / 1000) - (p1 / 1000) / 100 * 100) ((p1 / 10) - (p1 / 10) / 100 * 100) hd hv2)
            rw [hG196] at k196
            rw [hG196] at hv
            refine w_b (G196) (va_runV (As := [.int ((p1 / 1000) - (p1 / 1000) / 100 * 100), .int ((p1 / 10) - (p1 / 10) / 100 * 100)]) (rest := []) ⟨hx, hb, hml, hown, hts⟩ k196 (cwV 2 hts (good_V w_ml_X8_302 w_im_X8_runBuild w_se_X8_runBuild w_in_X8 w_co_X8_runBuild) rfl rfl rfl ⟨rfl, hd_X8_runBuild⟩ ⟨Nat.le_of_ble_eq_true rfl, Nat.le_of_ble_eq_true rfl⟩) (pe_W (C := RX8) (T := TX8) (N := 14) (ci := 8) (q0 := 0) hP hE rfl rfl) rfl rfl hl.1 rfl (lv_room (Nat.le_of_ble_eq_true rfl)) dX8_command_196 ⟨Nat.zero_le _, Nat.zero_le _⟩) hS (fun _ _ h => h) (fun _ h => h) (fun t locs hB hz hk hS => ?_)
            have hP : va_P D vwC (mW cs w ((G196).2)) t.heap := hB
            refine join_i (J := 207) (ls := ls) (rest := []) (b2i (if ((G196).1) = true then true else false)) ?_ (fun hJ => ?_)
            · exact W.zret (ty := .boolean) (v := b2i (if ((G196).1) = true then true else false)) hx hb hr (b2i_nar (if ((G196).1) = true then true else false)) (fun t ht hW => ⟨⟨b2i (if ((G196).1) = true then true else false), ((G196).2), rfl, pairb_eq hv, pw ht hP⟩, hS.F ht⟩) hS.2.2 dX8_command_207 (hlocks := hlocks)
            · refine lv_if_eq (tgt := 206) hx hb dX8_command_199 (by decide) (fun c199 => ?_) (fun c199 => ?_)
              · have c199 := b2i_f c199
                refine lv_iconst (v := 0) hx hb dX8_command_206 (by decide) ?_
                exact hJ _ (congrArg b2i ((if_neg c199).trans rfl))
              · have c199 := b2i_t c199
                refine lv_iconst (v := 1) hx hb dX8_command_202 (by decide) ?_
                refine lv_goto (tgt := 207) hx hb dX8_command_203 (by decide) ?_
                exact hJ _ (congrArg b2i ((if_pos c199).trans rfl))
        · have hv := (if_neg c42_3).symm.trans hv
          by_cases c42_4 : (p1 / 100000) = 5
          · have hv := (if_pos c42_4).symm.trans hv
            refine lv_tableIn (off := 166) (tgt := 208) hx hb dX8_command_42 (by rw [c42_4]; decide) (by rw [c42_4]; decide) (by rw [c42_4]; rfl) (by decide) ?_
            refine lv_iload_n hx hb dX8_command_208 rfl (lv_at hl 6 rfl) ?_
            refine lv_ldcw (v := 100000) hx hb hown (hts _ w_cn_X8_292) dX8_command_209 ?_
            refine lv_irem hx hb dX8_command_212 (by decide) ?_
            refine lv_bipush (v := 100) hx hb dX8_command_213 (by decide) ?_
            refine lv_icmp_ge (tgt := 231) hx hb dX8_command_215 (by decide) (fun c215 => ?_) (fun c215 => ?_)
            · have hv := (if_pos c215).symm.trans hv
              refine lv_iconst (v := 0) hx hb dX8_command_231 (by decide) ?_
              exact W.zret (ty := .boolean) (v := 0) hx hb hr (b2i_nar false) (fun t ht hW => ⟨⟨0, M, rfl, pairb_eq hv, pw ht hP⟩, hS.F ht⟩) hS.2.2 dX8_command_232 (hlocks := hlocks)
            · have hv := (if_neg c215).symm.trans hv
              refine lv_aload_n hx hb dX8_command_218 rfl (lv_at hl 5 rfl) ?_
              refine lv_iload hx hb dX8_command_219 (lv_at hl 1 rfl) ?_
              obtain ⟨G221, hG221⟩ : ∃ G, sX8_runDays M (p1 - p1 / 100 * 100) = G := ⟨_, rfl⟩
              have k221 := (c_X8_runDays l D cs w M (p1 - p1 / 100 * 100) hd hv2)
              rw [hG221] at k221
              rw [hG221] at hv
              refine w_b (G221) (va_runV (As := [.int (p1 - p1 / 100 * 100)]) (rest := []) ⟨hx, hb, hml, hown, hts⟩ k221 (cwV 1 hts (good_V w_ml_X8_305 w_im_X8_runDays w_se_X8_runDays w_in_X8 w_co_X8_runDays) rfl rfl rfl ⟨rfl, hd_X8_runDays⟩ ⟨Nat.le_of_ble_eq_true rfl, Nat.le_of_ble_eq_true rfl⟩) (pe_W (C := RX8) (T := TX8) (N := 14) (ci := 8) (q0 := 0) hP hE rfl rfl) rfl rfl hl.1 rfl (lv_room (Nat.le_of_ble_eq_true rfl)) dX8_command_221 ⟨Nat.zero_le _, Nat.zero_le _⟩) hS (fun _ _ h => h) (fun _ h => h) (fun t locs hB hz hk hS => ?_)
              have hP : va_P D vwC (mW cs w ((G221).2)) t.heap := hB
              refine join_i (J := 232) (ls := ls) (rest := []) (b2i (if ((G221).1) = true then true else false)) ?_ (fun hJ => ?_)
              · exact W.zret (ty := .boolean) (v := b2i (if ((G221).1) = true then true else false)) hx hb hr (b2i_nar (if ((G221).1) = true then true else false)) (fun t ht hW => ⟨⟨b2i (if ((G221).1) = true then true else false), ((G221).2), rfl, pairb_eq hv, pw ht hP⟩, hS.F ht⟩) hS.2.2 dX8_command_232 (hlocks := hlocks)
              · refine lv_if_eq (tgt := 231) hx hb dX8_command_224 (by decide) (fun c224 => ?_) (fun c224 => ?_)
                · have c224 := b2i_f c224
                  refine lv_iconst (v := 0) hx hb dX8_command_231 (by decide) ?_
                  exact hJ _ (congrArg b2i ((if_neg c224).trans rfl))
                · have c224 := b2i_t c224
                  refine lv_iconst (v := 1) hx hb dX8_command_227 (by decide) ?_
                  refine lv_goto (tgt := 232) hx hb dX8_command_228 (by decide) ?_
                  exact hJ _ (congrArg b2i ((if_pos c224).trans rfl))
          · have hv := (if_neg c42_4).symm.trans hv
            by_cases c42_5 : (p1 / 100000) = 6
            · have hv := (if_pos c42_5).symm.trans hv
              refine lv_tableIn (off := 191) (tgt := 233) hx hb dX8_command_42 (by rw [c42_5]; decide) (by rw [c42_5]; decide) (by rw [c42_5]; rfl) (by decide) ?_
              refine lv_iload hx hb dX8_command_233 (lv_at hl 2 rfl) ?_
              refine lv_if_ne (tgt := 250) hx hb dX8_command_235 (by decide) (fun c235 => ?_) (fun c235 => ?_)
              · have hv := (if_neg c235).symm.trans hv
                refine lv_iconst (v := 0) hx hb dX8_command_250 (by decide) ?_
                exact W.zret (ty := .boolean) (v := 0) hx hb hr (b2i_nar false) (fun t ht hW => ⟨⟨0, M, rfl, pairb_eq hv, pw ht hP⟩, hS.F ht⟩) hS.2.2 dX8_command_251 (hlocks := hlocks)
              · have hv := (if_pos c235).symm.trans hv
                refine lv_aload_n hx hb dX8_command_238 rfl (lv_at hl 5 rfl) ?_
                refine lv_iload_n hx hb dX8_command_239 rfl (lv_at hl 3 rfl) ?_
                obtain ⟨G240, hG240⟩ : ∃ G, sX8_runBack M ((p1 / 1000) - (p1 / 1000) / 100 * 100) = G := ⟨_, rfl⟩
                have k240 := (c_X8_runBack l D cs w M ((p1 / 1000) - (p1 / 1000) / 100 * 100) hd hv2)
                rw [hG240] at k240
                rw [hG240] at hv
                refine w_b (G240) (va_runV (As := [.int ((p1 / 1000) - (p1 / 1000) / 100 * 100)]) (rest := []) ⟨hx, hb, hml, hown, hts⟩ k240 (cwV 1 hts (good_V w_ml_X8_308 w_im_X8_runBack w_se_X8_runBack w_in_X8 w_co_X8_runBack) rfl rfl rfl ⟨rfl, hd_X8_runBack⟩ ⟨Nat.le_of_ble_eq_true rfl, Nat.le_of_ble_eq_true rfl⟩) (pe_W (C := RX8) (T := TX8) (N := 14) (ci := 8) (q0 := 0) hP hE rfl rfl) rfl rfl hl.1 rfl (lv_room (Nat.le_of_ble_eq_true rfl)) dX8_command_240 ⟨Nat.zero_le _, Nat.zero_le _⟩) hS (fun _ _ h => h) (fun _ h => h) (fun t locs hB hz hk hS => ?_)
                have hP : va_P D vwC (mW cs w ((G240).2)) t.heap := hB
                refine join_i (J := 251) (ls := ls) (rest := []) (b2i (if ((G240).1) = true then true else false)) ?_ (fun hJ => ?_)
                · exact W.zret (ty := .boolean) (v := b2i (if ((G240).1) = true then true else false)) hx hb hr (b2i_nar (if ((G240).1) = true then true else false)) (fun t ht hW => ⟨⟨b2i (if ((G240).1) = true then true else false), ((G240).2), rfl, pairb_eq hv, pw ht hP⟩, hS.F ht⟩) hS.2.2 dX8_command_251 (hlocks := hlocks)
                · refine lv_if_eq (tgt := 250) hx hb dX8_command_243 (by decide) (fun c243 => ?_) (fun c243 => ?_)
                  · have c243 := b2i_f c243
                    refine lv_iconst (v := 0) hx hb dX8_command_250 (by decide) ?_
                    exact hJ _ (congrArg b2i ((if_neg c243).trans rfl))
                  · have c243 := b2i_t c243
                    refine lv_iconst (v := 1) hx hb dX8_command_246 (by decide) ?_
                    refine lv_goto (tgt := 251) hx hb dX8_command_247 (by decide) ?_
                    exact hJ _ (congrArg b2i ((if_pos c243).trans rfl))
            · have hv := (if_neg c42_5).symm.trans hv
              by_cases c42_6 : (p1 / 100000) = 7
              · have hv := (if_pos c42_6).symm.trans hv
                refine lv_tableIn (off := 210) (tgt := 252) hx hb dX8_command_42 (by rw [c42_6]; decide) (by rw [c42_6]; decide) (by rw [c42_6]; rfl) (by decide) ?_
                refine lv_iload_n hx hb dX8_command_252 rfl (lv_at hl 6 rfl) ?_
                refine lv_sipush (v := 10000) hx hb dX8_command_253 (by decide) ?_
                refine lv_irem hx hb dX8_command_256 (by decide) ?_
                refine lv_if_ne (tgt := 272) hx hb dX8_command_257 (by decide) (fun c257 => ?_) (fun c257 => ?_)
                · have hv := (if_neg c257).symm.trans hv
                  refine lv_iconst (v := 0) hx hb dX8_command_272 (by decide) ?_
                  exact W.zret (ty := .boolean) (v := 0) hx hb hr (b2i_nar false) (fun t ht hW => ⟨⟨0, M, rfl, pairb_eq hv, pw ht hP⟩, hS.F ht⟩) hS.2.2 dX8_command_273 (hlocks := hlocks)
                · have hv := (if_pos c257).symm.trans hv
                  refine lv_aload_n hx hb dX8_command_260 rfl (lv_at hl 5 rfl) ?_
                  refine lv_iload_n hx hb dX8_command_261 rfl (lv_at hl 4 rfl) ?_
                  obtain ⟨G262, hG262⟩ : ∃ G, sX8_runCheck M ((p1 / 10000) - (p1 / 10000) / 10 * 10) = G := ⟨_, rfl⟩
                  have k262 := (c_X8_runCheck l D cs w M ((p1 / 10000) - (p1 / 10000) / 10 * 10) hd hv2)
                  rw [hG262] at k262
                  rw [hG262] at hv
                  refine w_b (G262) (va_runV (As := [.int ((p1 / 10000) - (p1 / 10000) / 10 * 10)]) (rest := []) ⟨hx, hb, hml, hown, hts⟩ k262 (cwV 1 hts (good_V w_ml_X8_311 w_im_X8_runCheck w_se_X8_runCheck w_in_X8 w_co_X8_runCheck) rfl rfl rfl ⟨rfl, hd_X8_runCheck⟩ ⟨Nat.le_of_ble_eq_true rfl, Nat.le_of_ble_eq_true rfl⟩) (pe_W (C := RX8) (T := TX8) (N := 14) (ci := 8) (q0 := 0) hP hE rfl rfl) rfl rfl hl.1 rfl (lv_room (Nat.le_of_ble_eq_true rfl)) dX8_command_262 ⟨Nat.zero_le _, Nat.zero_le _⟩) hS (fun _ _ h => h) (fun _ h => h) (fun t locs hB hz hk hS => ?_)
                  have hP : va_P D vwC (mW cs w ((G262).2)) t.heap := hB
                  refine join_i (J := 273) (ls := ls) (rest := []) (b2i (if ((G262).1) = true then true else false)) ?_ (fun hJ => ?_)
                  · exact W.zret (ty := .boolean) (v := b2i (if ((G262).1) = true then true else false)) hx hb hr (b2i_nar (if ((G262).1) = true then true else false)) (fun t ht hW => ⟨⟨b2i (if ((G262).1) = true then true else false), ((G262).2), rfl, pairb_eq hv, pw ht hP⟩, hS.F ht⟩) hS.2.2 dX8_command_273 (hlocks := hlocks)
                  · refine lv_if_eq (tgt := 272) hx hb dX8_command_265 (by decide) (fun c265 => ?_) (fun c265 => ?_)
                    · have c265 := b2i_f c265
                      refine lv_iconst (v := 0) hx hb dX8_command_272 (by decide) ?_
                      exact hJ _ (congrArg b2i ((if_neg c265).trans rfl))
                    · have c265 := b2i_t c265
                      refine lv_iconst (v := 1) hx hb dX8_command_268 (by decide) ?_
                      refine lv_goto (tgt := 273) hx hb dX8_command_269 (by decide) ?_
                      exact hJ _ (congrArg b2i ((if_pos c265).trans rfl))
              · have hv := (if_neg c42_6).symm.trans hv
                by_cases c42_7 : (p1 / 100000) = 8
                · have hv := (if_pos c42_7).symm.trans hv
                  refine lv_tableIn (off := 232) (tgt := 274) hx hb dX8_command_42 (by rw [c42_7]; decide) (by rw [c42_7]; decide) (by rw [c42_7]; rfl) (by decide) ?_
                  refine lv_iload_n hx hb dX8_command_274 rfl (lv_at hl 6 rfl) ?_
                  refine lv_ldcw (v := 100000) hx hb hown (hts _ w_cn_X8_292) dX8_command_275 ?_
                  refine lv_irem hx hb dX8_command_278 (by decide) ?_
                  refine lv_bipush (v := 100) hx hb dX8_command_279 (by decide) ?_
                  refine join_i (J := 301) (ls := ls) (rest := []) (b2i (if 100 ≤ (p1 - p1 / 100000 * 100000) then false else (if (p1 - p1 / 100 * 100) < (sX8_wrong (M.1.2 2)) then false else true))) ?_ (fun hJ => ?_)
                  · exact W.zret (ty := .boolean) (v := b2i (if 100 ≤ (p1 - p1 / 100000 * 100000) then false else (if (p1 - p1 / 100 * 100) < (sX8_wrong (M.1.2 2)) then false else true))) hx hb hr (b2i_nar (if 100 ≤ (p1 - p1 / 100000 * 100000) then false else (if (p1 - p1 / 100 * 100) < (sX8_wrong (M.1.2 2)) then false else true))) (fun t ht hW => ⟨⟨b2i (if 100 ≤ (p1 - p1 / 100000 * 100000) then false else (if (p1 - p1 / 100 * 100) < (sX8_wrong (M.1.2 2)) then false else true)), M, rfl, pairb_eq hv, pw ht hP⟩, hS.F ht⟩) hS.2.2 dX8_command_301 (hlocks := hlocks)
                  · refine lv_icmp_ge (tgt := 300) hx hb dX8_command_281 (by decide) (fun c281 => ?_) (fun c281 => ?_)
                    · refine lv_iconst (v := 0) hx hb dX8_command_300 (by decide) ?_
                      exact hJ _ (congrArg b2i ((if_pos c281).trans rfl))
                    · refine lv_aload_n hx hb dX8_command_284 rfl (lv_at hl 5 rfl) ?_
                      refine va_get (D := D) (ci := 8) (v := .ref (w 2)) (C := RX8) (T := TX8) (N := 14) hx hb hts iw_X8 hown hK hP 0 rfl rfl 2 (by decide) (hts _ w_fl_X8_13) (fun _ h9 => h9) rfl dX8_command_285 ?_
                      refine ro_i (sX8_wrong (M.1.2 2)) (run_c (va_runS (As := [.ref (w 2)]) (rest := []) ⟨hx, hb, hml, hown, hts⟩ (c_X8_wrong l D cs (w 2) (M.1.2 2) hv2) (cwS 1 hts (good_S w_ml_X8_90 w_st_X8_wrong w_in_X8 w_co_X8_wrong) rfl rfl rfl ⟨rfl, hd_X8_wrong⟩ ⟨Nat.le_of_ble_eq_true rfl, Nat.le_of_ble_eq_true rfl⟩) (pe_S (hP.sub (ws' := rowW cs (w 2) (M.1.2 2)) [2] rfl) hE) rfl rfl hl.1 rfl (lv_room (Nat.le_of_ble_eq_true rfl)) dX8_command_288 ⟨Nat.zero_le _, Nat.zero_le _⟩)) ?_
                      refine lv_iload hx hb dX8_command_291 (lv_at hl 1 rfl) ?_
                      refine lv_icmp_gt (tgt := 300) hx hb dX8_command_293 (by decide) (fun c293 => ?_) (fun c293 => ?_)
                      · refine lv_iconst (v := 0) hx hb dX8_command_300 (by decide) ?_
                        exact hJ _ (congrArg b2i ((if_neg c281).trans ((if_pos c293).trans rfl)))
                      · refine lv_iconst (v := 1) hx hb dX8_command_296 (by decide) ?_
                        refine lv_goto (tgt := 301) hx hb dX8_command_297 (by decide) ?_
                        exact hJ _ (congrArg b2i ((if_neg c281).trans ((if_neg c293).trans rfl)))
                · have hv := (if_neg c42_7).symm.trans hv
                  by_cases c42_8 : (p1 / 100000) = 9
                  · have hv := (if_pos c42_8).symm.trans hv
                    refine lv_tableIn (off := 260) (tgt := 302) hx hb dX8_command_42 (by rw [c42_8]; decide) (by rw [c42_8]; decide) (by rw [c42_8]; rfl) (by decide) ?_
                    refine lv_iload hx hb dX8_command_302 (lv_at hl 2 rfl) ?_
                    refine lv_iconst (v := 2) hx hb dX8_command_304 (by decide) ?_
                    refine join_i (J := 345) (ls := ls) (rest := []) (b2i (if 2 ≤ (p1 - p1 / 1000 * 1000) then false else (if (sX8_hasPrint (M.1.2 2) ((p1 / 1000) - (p1 / 1000) / 100 * 100)) = true then (if (sX8_mayBuild (M.1.2 2) ((p1 / 1000) - (p1 / 1000) / 100 * 100)) = true then (if (p1 - p1 / 10 * 10) = 1 then true else false) else (if (p1 - p1 / 10 * 10) = 0 then true else false)) else false))) ?_ (fun hJ => ?_)
                    · exact W.zret (ty := .boolean) (v := b2i (if 2 ≤ (p1 - p1 / 1000 * 1000) then false else (if (sX8_hasPrint (M.1.2 2) ((p1 / 1000) - (p1 / 1000) / 100 * 100)) = true then (if (sX8_mayBuild (M.1.2 2) ((p1 / 1000) - (p1 / 1000) / 100 * 100)) = true then (if (p1 - p1 / 10 * 10) = 1 then true else false) else (if (p1 - p1 / 10 * 10) = 0 then true else false)) else false))) hx hb hr (b2i_nar (if 2 ≤ (p1 - p1 / 1000 * 1000) then false else (if (sX8_hasPrint (M.1.2 2) ((p1 / 1000) - (p1 / 1000) / 100 * 100)) = true then (if (sX8_mayBuild (M.1.2 2) ((p1 / 1000) - (p1 / 1000) / 100 * 100)) = true then (if (p1 - p1 / 10 * 10) = 1 then true else false) else (if (p1 - p1 / 10 * 10) = 0 then true else false)) else false))) (fun t ht hW => ⟨⟨b2i (if 2 ≤ (p1 - p1 / 1000 * 1000) then false else (if (sX8_hasPrint (M.1.2 2) ((p1 / 1000) - (p1 / 1000) / 100 * 100)) = true then (if (sX8_mayBuild (M.1.2 2) ((p1 / 1000) - (p1 / 1000) / 100 * 100)) = true then (if (p1 - p1 / 10 * 10) = 1 then true else false) else (if (p1 - p1 / 10 * 10) = 0 then true else false)) else false)), M, rfl, pairb_eq hv, pw ht hP⟩, hS.F ht⟩) hS.2.2 dX8_command_345 (hlocks := hlocks)
                    · refine lv_icmp_ge (tgt := 344) hx hb dX8_command_305 (by decide) (fun c305 => ?_) (fun c305 => ?_)
                      · refine lv_iconst (v := 0) hx hb dX8_command_344 (by decide) ?_
                        exact hJ _ (congrArg b2i ((if_pos c305).trans rfl))
                      · refine lv_aload_n hx hb dX8_command_308 rfl (lv_at hl 5 rfl) ?_
                        refine va_get (D := D) (ci := 8) (v := .ref (w 2)) (C := RX8) (T := TX8) (N := 14) hx hb hts iw_X8 hown hK hP 0 rfl rfl 2 (by decide) (hts _ w_fl_X8_13) (fun _ h9 => h9) rfl dX8_command_309 ?_
                        refine lv_iload_n hx hb dX8_command_312 rfl (lv_at hl 3 rfl) ?_
                        refine ro_i (b2i (sX8_hasPrint (M.1.2 2) ((p1 / 1000) - (p1 / 1000) / 100 * 100))) (run_c (va_runS (As := [.ref (w 2), .int ((p1 / 1000) - (p1 / 1000) / 100 * 100)]) (rest := []) ⟨hx, hb, hml, hown, hts⟩ (c_X8_hasPrint l D cs (w 2) (M.1.2 2) ((p1 / 1000) - (p1 / 1000) / 100 * 100)) (cwS 2 hts (good_S w_ml_X8_178 w_st_X8_hasPrint w_in_X8 w_co_X8_hasPrint) rfl rfl rfl ⟨rfl, hd_X8_hasPrint⟩ ⟨Nat.le_of_ble_eq_true rfl, Nat.le_of_ble_eq_true rfl⟩) (pe_S (hP.sub (ws' := rowW cs (w 2) (M.1.2 2)) [2] rfl) hE) rfl rfl hl.1 rfl (lv_room (Nat.le_of_ble_eq_true rfl)) dX8_command_313 ⟨Nat.zero_le _, Nat.zero_le _⟩)) ?_
                        refine lv_if_eq (tgt := 344) hx hb dX8_command_316 (by decide) (fun c316 => ?_) (fun c316 => ?_)
                        · have c316 := b2i_f c316
                          refine lv_iconst (v := 0) hx hb dX8_command_344 (by decide) ?_
                          exact hJ _ (congrArg b2i ((if_neg c305).trans ((if_neg c316).trans rfl)))
                        · have c316 := b2i_t c316
                          refine lv_iload hx hb dX8_command_319 (lv_at hl 0 rfl) ?_
                          refine lv_aload_n hx hb dX8_command_321 rfl (lv_at hl 5 rfl) ?_
                          refine va_get (D := D) (ci := 8) (v := .ref (w 2)) (C := RX8) (T := TX8) (N := 14) hx hb hts iw_X8 hown hK hP 0 rfl rfl 2 (by decide) (hts _ w_fl_X8_13) (fun _ h9 => h9) rfl dX8_command_322 ?_
                          refine lv_iload_n hx hb dX8_command_325 rfl (lv_at hl 3 rfl) ?_
                          refine ro_i (b2i (sX8_mayBuild (M.1.2 2) ((p1 / 1000) - (p1 / 1000) / 100 * 100))) (run_c (va_runS (As := [.ref (w 2), .int ((p1 / 1000) - (p1 / 1000) / 100 * 100)]) (rest := [.int (p1 - p1 / 10 * 10)]) ⟨hx, hb, hml, hown, hts⟩ (c_X8_mayBuild l D cs (w 2) (M.1.2 2) ((p1 / 1000) - (p1 / 1000) / 100 * 100) ((hasP_t hv2.2.1.1 c316).v hv2)) (cwS 2 hts (good_S w_ml_X8_87 w_st_X8_mayBuild w_in_X8 w_co_X8_mayBuild) rfl rfl rfl ⟨rfl, hd_X8_mayBuild⟩ ⟨Nat.le_of_ble_eq_true rfl, Nat.le_of_ble_eq_true rfl⟩) (pe_S (hP.sub (ws' := rowW cs (w 2) (M.1.2 2)) [2] rfl) hE) rfl rfl hl.1 rfl (lv_room (Nat.le_of_ble_eq_true rfl)) dX8_command_326 ⟨Nat.zero_le _, Nat.zero_le _⟩)) ?_
                          refine lv_if_eq (tgt := 336) hx hb dX8_command_329 (by decide) (fun c329 => ?_) (fun c329 => ?_)
                          · have c329 := b2i_f c329
                            refine lv_iconst (v := 0) hx hb dX8_command_336 (by decide) ?_
                            refine lv_icmp_ne (tgt := 344) hx hb dX8_command_337 (by decide) (fun c337 => ?_) (fun c337 => ?_)
                            · refine lv_iconst (v := 0) hx hb dX8_command_344 (by decide) ?_
                              exact hJ _ (congrArg b2i ((if_neg c305).trans ((if_pos c316).trans ((if_neg c329).trans ((if_neg c337).trans rfl)))))
                            · refine lv_iconst (v := 1) hx hb dX8_command_340 (by decide) ?_
                              refine lv_goto (tgt := 345) hx hb dX8_command_341 (by decide) ?_
                              exact hJ _ (congrArg b2i ((if_neg c305).trans ((if_pos c316).trans ((if_neg c329).trans ((if_pos c337).trans rfl)))))
                          · have c329 := b2i_t c329
                            refine lv_iconst (v := 1) hx hb dX8_command_332 (by decide) ?_
                            refine lv_goto (tgt := 337) hx hb dX8_command_333 (by decide) ?_
                            refine lv_icmp_ne (tgt := 344) hx hb dX8_command_337 (by decide) (fun c337 => ?_) (fun c337 => ?_)
                            · refine lv_iconst (v := 0) hx hb dX8_command_344 (by decide) ?_
                              exact hJ _ (congrArg b2i ((if_neg c305).trans ((if_pos c316).trans ((if_pos c329).trans ((if_neg c337).trans rfl)))))
                            · refine lv_iconst (v := 1) hx hb dX8_command_340 (by decide) ?_
                              refine lv_goto (tgt := 345) hx hb dX8_command_341 (by decide) ?_
                              exact hJ _ (congrArg b2i ((if_neg c305).trans ((if_pos c316).trans ((if_pos c329).trans ((if_pos c337).trans rfl)))))
                  · have hv := (if_neg c42_8).symm.trans hv
                    have e0 : (p1 / 100000).toInt ≠ 1 := sw_ne c42_0
                    have e1 : (p1 / 100000).toInt ≠ 2 := sw_ne c42_1
                    have e2 : (p1 / 100000).toInt ≠ 3 := sw_ne c42_2
                    have e3 : (p1 / 100000).toInt ≠ 4 := sw_ne c42_3
                    have e4 : (p1 / 100000).toInt ≠ 5 := sw_ne c42_4
                    have e5 : (p1 / 100000).toInt ≠ 6 := sw_ne c42_5
                    have e6 : (p1 / 100000).toInt ≠ 7 := sw_ne c42_6
                    have e7 : (p1 / 100000).toInt ≠ 8 := sw_ne c42_7
                    have e8 : (p1 / 100000).toInt ≠ 9 := sw_ne c42_8
                    refine lv_tableOut (tgt := 346) hx hb dX8_command_42 (by omega) (by decide) ?_
                    refine lv_iconst (v := 0) hx hb dX8_command_346 (by decide) ?_
                    exact W.zret (ty := .boolean) (v := 0) hx hb hr (b2i_nar false) (fun t ht hW => ⟨⟨0, M, rfl, pairb_eq hv, pw ht hP⟩, hS.F ht⟩) hS.2.2 dX8_command_347 (hlocks := hlocks)
theorem TR_command {M : MS} (p1 : Int32) (hv : MV (M.1.2 2)) : TR M (sX8_command M p1).2 := by
  unfold sX8_command
  refine tr_if2 (fun c42_0 => ?_) (fun c42_0 => ?_)
  · refine tr_if2 (fun c100 => ?_) (fun c100 => ?_)
    · refine tr_if2 (fun c105 => ?_) (fun c105 => ?_)
      · exact TR_runRevise _ _ hv
      · exact TR.rf hv
    · exact TR.rf hv
  · refine tr_if2 (fun c42_1 => ?_) (fun c42_1 => ?_)
    · refine tr_if2 (fun c131 => ?_) (fun c131 => ?_)
      · exact TR_runPrint _ _ hv
      · exact TR.rf hv
    · refine tr_if2 (fun c42_2 => ?_) (fun c42_2 => ?_)
      · refine tr_if2 (fun c158 => ?_) (fun c158 => ?_)
        · exact TR_runStamp _ _ hv
        · exact TR.rf hv
      · refine tr_if2 (fun c42_3 => ?_) (fun c42_3 => ?_)
        · refine tr_if2 (fun c184 => ?_) (fun c184 => ?_)
          · exact TR_runBuild _ _ hv
          · exact TR.rf hv
        · refine tr_if2 (fun c42_4 => ?_) (fun c42_4 => ?_)
          · refine tr_if2 (fun c215 => ?_) (fun c215 => ?_)
            · exact TR.rf hv
            · exact TR_runDays _ hv
          · refine tr_if2 (fun c42_5 => ?_) (fun c42_5 => ?_)
            · refine tr_if2 (fun c235 => ?_) (fun c235 => ?_)
              · exact TR_runBack _ hv
              · exact TR.rf hv
            · refine tr_if2 (fun c42_6 => ?_) (fun c42_6 => ?_)
              · refine tr_if2 (fun c257 => ?_) (fun c257 => ?_)
                · exact TR_runCheck _ hv
                · exact TR.rf hv
              · refine tr_if2 (fun c42_7 => ?_) (fun c42_7 => ?_)
                · exact TR.rf hv
                · refine tr_if2 (fun c42_8 => ?_) (fun c42_8 => ?_)
                  · exact TR.rf hv
                  · exact TR.rf hv
theorem hd_X8_runScript : yX8_runScript.cls ≠ "java/lang/invoke/MethodHandle" ∧ yX8_runScript.cls ≠ "java/lang/invoke/VarHandle" ∧ (parseMethodDescriptor yX8_runScript.desc).map (fun d => d.parameters.length) = some 2 := by decide +kernel
def LX8_runScript_57 (M : MS) (p1 : Int32) (p2 : Int64) : Nat → Int32 → MS → Int32 × MS
  | 0 => fun _ _ => (0, M)
  | n + 1 => fun x4 O9 => (if p1 ≤ x4 then ((-1), O9) else (if (((sX8_command O9 (((p2 / (sX8_tens (6 * ((p1 - 1) - x4)))) - (p2 / (sX8_tens (6 * ((p1 - 1) - x4)))) / (1000000 : Int64) * (1000000 : Int64)).toInt32))).1) = true then (LX8_runScript_57 M p1 p2 n (x4 + 1) (((sX8_command O9 (((p2 / (sX8_tens (6 * ((p1 - 1) - x4)))) - (p2 / (sX8_tens (6 * ((p1 - 1) - x4)))) / (1000000 : Int64) * (1000000 : Int64)).toInt32))).2)) else (x4, (((sX8_command O9 (((p2 / (sX8_tens (6 * ((p1 - 1) - x4)))) - (p2 / (sX8_tens (6 * ((p1 - 1) - x4)))) / (1000000 : Int64) * (1000000 : Int64)).toInt32))).2))))
theorem LX8_runScript_57_eq (M : MS) (p1 : Int32) (p2 : Int64) (n : Nat) (x4 : Int32) (O9 : MS) : LX8_runScript_57 M p1 p2 (n + 1) x4 O9 = (if p1 ≤ x4 then ((-1), O9) else (if (((sX8_command O9 (((p2 / (sX8_tens (6 * ((p1 - 1) - x4)))) - (p2 / (sX8_tens (6 * ((p1 - 1) - x4)))) / (1000000 : Int64) * (1000000 : Int64)).toInt32))).1) = true then (LX8_runScript_57 M p1 p2 n (x4 + 1) (((sX8_command O9 (((p2 / (sX8_tens (6 * ((p1 - 1) - x4)))) - (p2 / (sX8_tens (6 * ((p1 - 1) - x4)))) / (1000000 : Int64) * (1000000 : Int64)).toInt32))).2)) else (x4, (((sX8_command O9 (((p2 / (sX8_tens (6 * ((p1 - 1) - x4)))) - (p2 / (sX8_tens (6 * ((p1 - 1) - x4)))) / (1000000 : Int64) * (1000000 : Int64)).toInt32))).2)))) := rfl
def sX8_runScript (M : MS) (p1 : Int32) (p2 : Int64) : Int32 × MS := (if (refB (b2i (if (sX8_in p1.toInt64 (1 : Int64) (3 : Int64)) = true then (if (sX8_in p2 (0 : Int64) ((sX8_tens (6 * p1)) - (1 : Int64))) = true then false else true) else true))) = true then (0, (msS M 0 (b2i (if (sX8_in p1.toInt64 (1 : Int64) (3 : Int64)) = true then (if (sX8_in p2 (0 : Int64) ((sX8_tens (6 * p1)) - (1 : Int64))) = true then false else true) else true)))) else (LX8_runScript_57 M p1 p2 (upM p1 0 + 1) 0 (msA (msS M 0 (b2i (if (sX8_in p1.toInt64 (1 : Int64) (3 : Int64)) = true then (if (sX8_in p2 (0 : Int64) ((sX8_tens (6 * p1)) - (1 : Int64))) = true then false else true) else true))) 2 ((sX8_copy (M.1.2 2) (M.1.2 1))))))
set_option maxHeartbeats 4000000 in
set_option maxRecDepth 100000 in
theorem c_X8_runScript (l : Launch) (D : va_G) (cs : Nat → ClassId) (w : Nat → Nat) (M : MS) (p1 : Int32) (p2 : Int64) (hd : mD w) (hv0 : MV (M.1.2 1)) : Met l yX8_runScript (wc yX8_runScript cX8_runScript 5 (some .int)) ({ frames := 7, cells := 0, slots := 0, locals := 157 } : Room) (va_Pc [.ref (w 0), .int p1, .long p2] (PE D cs (mW cs w M))) (va_Qi (fun (r9 : Int32) (u : MS) => r9 = (sX8_runScript M p1 p2).1 ∧ u = (sX8_runScript M p1 p2).2) (fun u t => va_P D vwC (mW cs w u) t.heap) (mA w)) 0 0 (mA w) := by
  obtain ⟨v, hv⟩ : ∃ v, sX8_runScript M p1 p2 = v := ⟨_, rfl⟩
  rw [hv]
  refine met_o (lv := [(0, .ref (w 0)), (1, .int p1), (2, .long p2)]) (by decide) (Nat.le_of_ble_eq_true rfl) rfl ?_
  intro p e s m args below meth c ls hx hb hr hml hts hown hlocks hin hP hE hl
  have hown : s.vm.findClass RX8 = some m.cls := hown
  have hK := hE.1
  have hP : va_P D vwC (mW cs w M) s.heap := hP
  have hS : va_S (mA w) s.heap s.heap [] := va_S.rf
  unfold sX8_runScript at hv
  refine lv_aload_n hx hb dX8_runScript_0 rfl (lv_at hl 0 rfl) ?_
  refine lv_iload_n hx hb dX8_runScript_1 rfl (lv_at hl 1 rfl) ?_
  refine lv_i2l hx hb dX8_runScript_2 rfl ?_
  refine lv_lconst (v := 1) hx hb dX8_runScript_3 (by decide) ?_
  refine lv_ldc2 (v := 3) hx hb hown (hts _ w_cn_X8_48) dX8_runScript_4 ?_
  refine ro_i (b2i (sX8_in p1.toInt64 (1 : Int64) (3 : Int64))) (run_c (va_runS (As := [.long p1.toInt64, .long (1 : Int64), .long (3 : Int64)]) (rest := [.ref (w 0)]) ⟨hx, hb, hml, hown, hts⟩ (c_X8_in l D cs p1.toInt64 (1 : Int64) (3 : Int64)) (cwS 3 hts (good_S w_ml_X8_42 w_st_X8_in w_in_X8 w_co_X8_in) rfl rfl rfl ⟨rfl, hd_X8_in⟩ ⟨Nat.le_of_ble_eq_true rfl, Nat.le_of_ble_eq_true rfl⟩) (pe_S (p_nil D _) hE) rfl rfl hl.1 rfl (lv_room (Nat.le_of_ble_eq_true rfl)) dX8_runScript_7 ⟨Nat.zero_le _, Nat.zero_le _⟩)) ?_
  refine join_i (J := 35) (ls := ls) (rest := [.ref (w 0)]) (b2i (if (sX8_in p1.toInt64 (1 : Int64) (3 : Int64)) = true then (if (sX8_in p2 (0 : Int64) ((sX8_tens (6 * p1)) - (1 : Int64))) = true then false else true) else true)) ?_ (fun hJ => ?_)
  · refine w_b (refB (b2i (if (sX8_in p1.toInt64 (1 : Int64) (3 : Int64)) = true then (if (sX8_in p2 (0 : Int64) ((sX8_tens (6 * p1)) - (1 : Int64))) = true then false else true) else true)), (msS M 0 (b2i (if (sX8_in p1.toInt64 (1 : Int64) (3 : Int64)) = true then (if (sX8_in p2 (0 : Int64) ((sX8_tens (6 * p1)) - (1 : Int64))) = true then false else true) else true)))) (va_runV (As := [.int (b2i (if (sX8_in p1.toInt64 (1 : Int64) (3 : Int64)) = true then (if (sX8_in p2 (0 : Int64) ((sX8_tens (6 * p1)) - (1 : Int64))) = true then false else true) else true))]) (rest := []) ⟨hx, hb, hml, hown, hts⟩ (c_X8_refused l D cs w M (b2i (if (sX8_in p1.toInt64 (1 : Int64) (3 : Int64)) = true then (if (sX8_in p2 (0 : Int64) ((sX8_tens (6 * p1)) - (1 : Int64))) = true then false else true) else true)) hd) (cwV 1 hts (good_V w_ml_X8_105 w_im_X8_refused w_se_X8_refused w_in_X8 w_co_X8_refused) rfl rfl rfl ⟨rfl, hd_X8_refused⟩ ⟨Nat.le_of_ble_eq_true rfl, Nat.le_of_ble_eq_true rfl⟩) (pe_W (C := RX8) (T := TX8) (N := 14) (ci := 8) (q0 := 0) hP hE rfl rfl) rfl rfl hl.1 rfl (lv_room (Nat.le_of_ble_eq_true rfl)) dX8_runScript_35 ⟨Nat.zero_le _, Nat.zero_le _⟩) hS (fun _ _ h => h) (fun _ h => h) (fun t locs hB hz hk hS => ?_)
    have hP : va_P D vwC (mW cs w (msS M 0 (b2i (if (sX8_in p1.toInt64 (1 : Int64) (3 : Int64)) = true then (if (sX8_in p2 (0 : Int64) ((sX8_tens (6 * p1)) - (1 : Int64))) = true then false else true) else true)))) t.heap := hB
    refine lv_if_eq (tgt := 43) hx hb dX8_runScript_38 (by decide) (fun c38 => ?_) (fun c38 => ?_)
    · have c38 := b2i_f c38
      have hv := (if_neg c38).symm.trans hv
      have f1 := iftb (b2i_f (rf0 c38))
      refine lv_aload_n hx hb dX8_runScript_43 rfl (lv_at hl 0 rfl) ?_
      refine va_get (D := D) (ci := 8) (v := .ref (w 1)) (C := RX8) (T := TX8) (N := 14) hx hb hts iw_X8 hown hK hP 0 rfl rfl 1 (by decide) (hts _ w_fl_X8_7) (fun _ h9 => h9) rfl dX8_runScript_44 ?_
      refine lv_aload_n hx hb dX8_runScript_47 rfl (lv_at hl 0 rfl) ?_
      refine va_get (D := D) (ci := 8) (v := .ref (w 2)) (C := RX8) (T := TX8) (N := 14) hx hb hts iw_X8 hown hK hP 0 rfl rfl 2 (by decide) (hts _ w_fl_X8_13) (fun _ h9 => h9) rfl dX8_runScript_48 ?_
      obtain ⟨G51, hG51⟩ : ∃ G, sX8_copy (M.1.2 2) (M.1.2 1) = G := ⟨_, rfl⟩
      have k51 := (c_X8_copy l D cs (w 2) (w 1) (M.1.2 2) (M.1.2 1) (fun e9 => absurd (hd 2 1 (by decide) (by decide) e9) (by decide)))
      rw [hG51] at k51
      rw [hG51] at hv
      refine w_v (G51) (va_runS (As := [.ref (w 1), .ref (w 2)]) (rest := []) ⟨hx, hb, hml, hown, hts⟩ k51 (cwS 2 hts (good_S w_ml_X8_208 w_st_X8_copy w_in_X8 w_co_X8_copy) rfl rfl rfl ⟨rfl, hd_X8_copy⟩ ⟨Nat.le_of_ble_eq_true rfl, Nat.le_of_ble_eq_true rfl⟩) (pe_S (hP.sub (ws' := rowW cs (w 2) (M.1.2 2) ++ rowW cs (w 1) (M.1.2 1)) [2, 1] rfl) hE) rfl rfl hl.1 rfl (lv_room (Nat.le_of_ble_eq_true rfl)) dX8_runScript_51 ⟨Nat.zero_le _, Nat.zero_le _⟩) hS (fun _ _ h => h.elim (fun h => ⟨2, by decide, h⟩) (fun h => ⟨1, by decide, h⟩)) (fun _ h => h.elim (fun h => ⟨2, by decide, h⟩) (fun h => ⟨1, by decide, h⟩)) (fun t locs hB hz hk hS => ?_)
      have hP : va_P D vwC (mW cs w (msA (msS M 0 (b2i (if (sX8_in p1.toInt64 (1 : Int64) (3 : Int64)) = true then (if (sX8_in p2 (0 : Int64) ((sX8_tens (6 * p1)) - (1 : Int64))) = true then false else true) else true))) 2 (G51))) t.heap := m_cp21 hd hP hk hB
      refine lv_iconst (v := 0) hx hb dX8_runScript_54 (by decide) ?_
      refine lv_istore (lv' := [(4, .int 0), (0, .ref (w 0)), (1, .int p1), (2, .long p2)]) hx hb dX8_runScript_55 hl (by decide) rfl (fun ls hl => ?_)
      have LOOP : ∀ (n : Nat) (x4 : Int32) (O9 : MS), upM p1 x4 < n → (¬ x4 < 0) → (MV (O9.1.2 2)) → LX8_runScript_57 M p1 p2 n x4 O9 = v → ∀ (H : Heap) (locs : List Loc), va_P D vwC (mW cs w O9) H → va_S (mA w) s.heap H locs → ∀ ls : Array Slot, lv_has ls 5 [(0, .ref (w 0)), (1, .int p1), (2, .long p2), (4, .int x4)] → W p l e ({ frames := 7, cells := 0, slots := 0, locals := 157 } : Room) s m args below meth c H locs 0 0 (MQ below (va_Qi (fun (r9 : Int32) (u : MS) => r9 = v.1 ∧ u = v.2) (fun u t => va_P D vwC (mW cs w u) t.heap) (mA w)) args s 0 0 (mA w)) (F0 m 57 ls []) := by
        clear hv
        intro n
        induction n with
        | zero => intro x4 O9 hm; exact absurd hm (Nat.not_lt_zero _)
        | succ n ih =>
          intro x4 O9 hm i0 i1 hv H locs hP hS ls hl
          have hv := (LX8_runScript_57_eq M p1 p2 n x4 O9).symm.trans hv
          refine lv_iload hx hb dX8_runScript_57 (lv_at hl 3 rfl) ?_
          refine lv_iload_n hx hb dX8_runScript_59 rfl (lv_at hl 1 rfl) ?_
          refine lv_icmp_ge (tgt := 98) hx hb dX8_runScript_60 (by decide) (fun c60 => ?_) (fun c60 => ?_)
          · have hv := (if_pos c60).symm.trans hv
            refine lv_iconst (v := (-1)) hx hb dX8_runScript_98 (by decide) ?_
            exact W.iret (v := (-1)) hx hb hr (fun t ht hW => ⟨⟨(-1), O9, rfl, pair_eq hv, pw ht hP⟩, hS.F ht⟩) hS.2.2 dX8_runScript_99 (hlocks := hlocks)
          · have hv := (if_neg c60).symm.trans hv
            refine lv_aload_n hx hb dX8_runScript_63 rfl (lv_at hl 0 rfl) ?_
            refine lv_lload_n hx hb dX8_runScript_64 rfl (lv_at hl 2 rfl) ?_
            refine lv_bipush (v := 6) hx hb dX8_runScript_65 (by decide) ?_
            refine lv_iload_n hx hb dX8_runScript_67 rfl (lv_at hl 1 rfl) ?_
            refine lv_iconst (v := 1) hx hb dX8_runScript_68 (by decide) ?_
            refine lv_isub hx hb dX8_runScript_69 ?_
            refine lv_iload hx hb dX8_runScript_70 (lv_at hl 3 rfl) ?_
            refine lv_isub hx hb dX8_runScript_72 ?_
            refine lv_imul hx hb dX8_runScript_73 ?_
            refine ro_l (sX8_tens (6 * ((p1 - 1) - x4))) (run_c (va_runS (As := [.int (6 * ((p1 - 1) - x4))]) (rest := [.long p2, .ref (w 0)]) ⟨hx, hb, hml, hown, hts⟩ (c_X8_tens l D cs (6 * ((p1 - 1) - x4))) (cwS 1 hts (good_S w_ml_X8_314 w_st_X8_tens w_in_X8 w_co_X8_tens) rfl rfl rfl ⟨rfl, hd_X8_tens⟩ ⟨Nat.le_of_ble_eq_true rfl, Nat.le_of_ble_eq_true rfl⟩) (pe_S (p_nil D _) hE) rfl rfl hl.1 rfl (lv_room (Nat.le_of_ble_eq_true rfl)) dX8_runScript_74 ⟨Nat.zero_le _, Nat.zero_le _⟩)) ?_
            refine lv_ldiv hx hb dX8_runScript_77 (tens_nz f1.1 i0 c60) ?_
            refine lv_ldc2 (v := 1000000) hx hb hown (hts _ w_cn_X8_318) dX8_runScript_78 ?_
            refine lv_lrem hx hb dX8_runScript_81 (by decide) ?_
            refine lv_l2i hx hb dX8_runScript_82 rfl ?_
            obtain ⟨G83, hG83⟩ : ∃ G, sX8_command O9 (((p2 / (sX8_tens (6 * ((p1 - 1) - x4)))) - (p2 / (sX8_tens (6 * ((p1 - 1) - x4)))) / (1000000 : Int64) * (1000000 : Int64)).toInt32) = G := ⟨_, rfl⟩
            have k83 := (c_X8_command l D cs w O9 (((p2 / (sX8_tens (6 * ((p1 - 1) - x4)))) - (p2 / (sX8_tens (6 * ((p1 - 1) - x4)))) / (1000000 : Int64) * (1000000 : Int64)).toInt32) hd i1)
            rw [hG83] at k83
            rw [hG83] at hv
            refine w_b (G83) (va_runV (As := [.int (((p2 / (sX8_tens (6 * ((p1 - 1) - x4)))) - (p2 / (sX8_tens (6 * ((p1 - 1) - x4)))) / (1000000 : Int64) * (1000000 : Int64)).toInt32)]) (rest := []) ⟨hx, hb, hml, hown, hts⟩ k83 (cwV 1 hts (good_V w_ml_X8_320 w_im_X8_command w_se_X8_command w_in_X8 w_co_X8_command) rfl rfl rfl ⟨rfl, hd_X8_command⟩ ⟨Nat.le_of_ble_eq_true rfl, Nat.le_of_ble_eq_true rfl⟩) (pe_W (C := RX8) (T := TX8) (N := 14) (ci := 8) (q0 := 0) hP hE rfl rfl) rfl rfl hl.1 rfl (lv_room (Nat.le_of_ble_eq_true rfl)) dX8_runScript_83 ⟨Nat.zero_le _, Nat.zero_le _⟩) hS (fun _ _ h => h) (fun _ h => h) (fun t locs hB hz hk hS => ?_)
            have hP : va_P D vwC (mW cs w ((G83).2)) t.heap := hB
            refine lv_if_ne (tgt := 92) hx hb dX8_runScript_86 (by decide) (fun c86 => ?_) (fun c86 => ?_)
            · have c86 := b2i_t c86
              have hv := (if_pos c86).symm.trans hv
              refine lv_iinc (v := x4 + 1) (lv' := [(4, .int (x4 + 1)), (0, .ref (w 0)), (1, .int p1), (2, .long p2)]) hx hb dX8_runScript_92 hl (k := 3) rfl rfl (by decide) rfl (fun ls hl => ?_)
              refine lv_goto (tgt := 57) hx hb dX8_runScript_95 (by decide) ?_
              exact ih (x4 + 1) ((G83).2) (upM_s c60 hm) (nn_inc i0 c60) (by rw [← hG83]; exact (TR_command _ i1).1) hv _ _ hP hS ls (lv_sub hl [1, 2, 3, 0] rfl)
            · have c86 := b2i_f c86
              have hv := (if_neg c86).symm.trans hv
              refine lv_iload hx hb dX8_runScript_89 (lv_at hl 3 rfl) ?_
              exact W.iret (v := x4) hx hb hr (fun t ht hW => ⟨⟨x4, ((G83).2), rfl, pair_eq hv, pw ht hP⟩, hS.F ht⟩) hS.2.2 dX8_runScript_91 (hlocks := hlocks)
      exact LOOP _ 0 (msA (msS M 0 (b2i (if (sX8_in p1.toInt64 (1 : Int64) (3 : Int64)) = true then (if (sX8_in p2 (0 : Int64) ((sX8_tens (6 * p1)) - (1 : Int64))) = true then false else true) else true))) 2 (G51)) (Nat.lt_succ_self _) (by decide) (by show MV G51; rw [← hG51]; exact MV_copy hv0) hv _ _ hP hS ls (lv_sub hl [1, 2, 3, 0] rfl)
    · have c38 := b2i_t c38
      have hv := (if_pos c38).symm.trans hv
      refine lv_iconst (v := 0) hx hb dX8_runScript_41 (by decide) ?_
      exact W.iret (v := 0) hx hb hr (fun t ht hW => ⟨⟨0, (msS M 0 (b2i (if (sX8_in p1.toInt64 (1 : Int64) (3 : Int64)) = true then (if (sX8_in p2 (0 : Int64) ((sX8_tens (6 * p1)) - (1 : Int64))) = true then false else true) else true))), rfl, pair_eq hv, pw ht hP⟩, hS.F ht⟩) hS.2.2 dX8_runScript_42 (hlocks := hlocks)
  · refine lv_if_eq (tgt := 34) hx hb dX8_runScript_10 (by decide) (fun c10 => ?_) (fun c10 => ?_)
    · have c10 := b2i_f c10
      refine lv_iconst (v := 1) hx hb dX8_runScript_34 (by decide) ?_
      exact hJ _ (congrArg b2i ((if_neg c10).trans rfl))
    · have c10 := b2i_t c10
      refine lv_lload_n hx hb dX8_runScript_13 rfl (lv_at hl 2 rfl) ?_
      refine lv_lconst (v := 0) hx hb dX8_runScript_14 (by decide) ?_
      refine lv_bipush (v := 6) hx hb dX8_runScript_15 (by decide) ?_
      refine lv_iload_n hx hb dX8_runScript_17 rfl (lv_at hl 1 rfl) ?_
      refine lv_imul hx hb dX8_runScript_18 ?_
      refine ro_l (sX8_tens (6 * p1)) (run_c (va_runS (As := [.int (6 * p1)]) (rest := [.long (0 : Int64), .long p2, .ref (w 0)]) ⟨hx, hb, hml, hown, hts⟩ (c_X8_tens l D cs (6 * p1)) (cwS 1 hts (good_S w_ml_X8_314 w_st_X8_tens w_in_X8 w_co_X8_tens) rfl rfl rfl ⟨rfl, hd_X8_tens⟩ ⟨Nat.le_of_ble_eq_true rfl, Nat.le_of_ble_eq_true rfl⟩) (pe_S (p_nil D _) hE) rfl rfl hl.1 rfl (lv_room (Nat.le_of_ble_eq_true rfl)) dX8_runScript_19 ⟨Nat.zero_le _, Nat.zero_le _⟩)) ?_
      refine lv_lconst (v := 1) hx hb dX8_runScript_22 (by decide) ?_
      refine lv_lsub hx hb dX8_runScript_23 ?_
      refine ro_i (b2i (sX8_in p2 (0 : Int64) ((sX8_tens (6 * p1)) - (1 : Int64)))) (run_c (va_runS (As := [.long p2, .long (0 : Int64), .long ((sX8_tens (6 * p1)) - (1 : Int64))]) (rest := [.ref (w 0)]) ⟨hx, hb, hml, hown, hts⟩ (c_X8_in l D cs p2 (0 : Int64) ((sX8_tens (6 * p1)) - (1 : Int64))) (cwS 3 hts (good_S w_ml_X8_42 w_st_X8_in w_in_X8 w_co_X8_in) rfl rfl rfl ⟨rfl, hd_X8_in⟩ ⟨Nat.le_of_ble_eq_true rfl, Nat.le_of_ble_eq_true rfl⟩) (pe_S (p_nil D _) hE) rfl rfl hl.1 rfl (lv_room (Nat.le_of_ble_eq_true rfl)) dX8_runScript_24 ⟨Nat.zero_le _, Nat.zero_le _⟩)) ?_
      refine lv_if_eq (tgt := 34) hx hb dX8_runScript_27 (by decide) (fun c27 => ?_) (fun c27 => ?_)
      · have c27 := b2i_f c27
        refine lv_iconst (v := 1) hx hb dX8_runScript_34 (by decide) ?_
        exact hJ _ (congrArg b2i ((if_pos c10).trans ((if_neg c27).trans rfl)))
      · have c27 := b2i_t c27
        refine lv_iconst (v := 0) hx hb dX8_runScript_30 (by decide) ?_
        refine lv_goto (tgt := 35) hx hb dX8_runScript_31 (by decide) ?_
        exact hJ _ (congrArg b2i ((if_pos c10).trans ((if_pos c27).trans rfl)))
theorem hd_X8_stir : yX8_stir.cls ≠ "java/lang/invoke/MethodHandle" ∧ yX8_stir.cls ≠ "java/lang/invoke/VarHandle" ∧ (parseMethodDescriptor yX8_stir.desc).map (fun d => d.parameters.length) = some 1 := by decide +kernel
def sX8_stir (M : MS) (p1 : Int32) : MS := (if (p1 - p1 / 16 * 16) = 0 then (if (sX8_hasSheet (M.1.2 2) ((p1 / 16) - (p1 / 16) / 10 * 10)) = true then (if (sX8_canDraw (M.1.2 2)) = true then (msA M 2 (((sX8_goDraw (M.1.2 2) ((p1 / 16) - (p1 / 16) / 10 * 10))).2)) else M) else M) else (if (p1 - p1 / 16 * 16) = 1 then (if (sX8_hasSheet (M.1.2 2) ((p1 / 16) - (p1 / 16) / 10 * 10)) = true then (if (sX8_canRevise (M.1.2 2) ((p1 / 16) - (p1 / 16) / 10 * 10)) = true then (msA M 2 (((sX8_goRevise (M.1.2 2) ((p1 / 16) - (p1 / 16) / 10 * 10) (1 + ((p1 / 256) - (p1 / 256) / 4095 * 4095)))).2)) else M) else M) else (if (p1 - p1 / 16 * 16) = 2 then (if (sX8_hasSheet (M.1.2 2) ((p1 / 16) - (p1 / 16) / 10 * 10)) = true then (if (sX8_canRevise (M.1.2 2) ((p1 / 16) - (p1 / 16) / 10 * 10)) = true then (msA M 2 (((sX8_goRevise (M.1.2 2) ((p1 / 16) - (p1 / 16) / 10 * 10) (1 + ((p1 / 256) - (p1 / 256) / 4095 * 4095)))).2)) else M) else M) else (if (p1 - p1 / 16 * 16) = 3 then (((sX8_runCheck M ((p1 / 16) - (p1 / 16) / 10 * 10))).2) else (if (p1 - p1 / 16 * 16) = 4 then (((sX8_runPrint M ((p1 / 16) - (p1 / 16) / 10 * 10) ((p1 / 256) - (p1 / 256) / 4 * 4))).2) else (if (p1 - p1 / 16 * 16) = 5 then (((sX8_runPrint M ((p1 / 16) - (p1 / 16) / 10 * 10) ((p1 / 256) - (p1 / 256) / 4 * 4))).2) else (if (p1 - p1 / 16 * 16) = 6 then (((sX8_runPrint M ((p1 / 16) - (p1 / 16) / 10 * 10) ((p1 / 256) - (p1 / 256) / 4 * 4))).2) else (if (p1 - p1 / 16 * 16) = 7 then (((sX8_runStamp M ((p1 / 16) - (p1 / 16) / 24 * 24) ((p1 / 512) - (p1 / 512) / 3 * 3))).2) else (if (p1 - p1 / 16 * 16) = 8 then (((sX8_runStamp M ((p1 / 16) - (p1 / 16) / 24 * 24) ((p1 / 512) - (p1 / 512) / 3 * 3))).2) else (if (p1 - p1 / 16 * 16) = 9 then (((sX8_runBack M ((p1 / 16) - (p1 / 16) / 24 * 24))).2) else (if (p1 - p1 / 16 * 16) = 10 then (((sX8_runBuild M ((p1 / 16) - (p1 / 16) / 24 * 24) ((p1 / 512) - (p1 / 512) / 12 * 12))).2) else (if (p1 - p1 / 16 * 16) = 11 then (((sX8_runBuild M ((p1 / 16) - (p1 / 16) / 24 * 24) ((p1 / 512) - (p1 / 512) / 12 * 12))).2) else (if (p1 - p1 / 16 * 16) = 12 then (((sX8_runBuild M ((p1 / 16) - (p1 / 16) / 24 * 24) ((p1 / 512) - (p1 / 512) / 12 * 12))).2) else (if (p1 - p1 / 16 * 16) = 13 then (if (sX8_hasWork (M.1.2 2) ((p1 / 16) - (p1 / 16) / 30 * 30)) = true then (if (sX8_isWrong (M.1.2 2) ((p1 / 16) - (p1 / 16) / 30 * 30)) = true then (msA M 2 (((sX8_goMend (M.1.2 2) ((p1 / 16) - (p1 / 16) / 30 * 30))).2)) else M) else M) else (((sX8_runDays M (1 + ((p1 / 16) - (p1 / 16) / 5 * 5)))).2)))))))))))))))
set_option maxHeartbeats 4000000 in
set_option maxRecDepth 100000 in
theorem c_X8_stir (l : Launch) (D : va_G) (cs : Nat → ClassId) (w : Nat → Nat) (M : MS) (p1 : Int32) (hd : mD w) (hv2 : MV (M.1.2 2)) : Met l yX8_stir (wc yX8_stir cX8_stir 5 none) ({ frames := 6, cells := 0, slots := 0, locals := 131 } : Room) (va_Pc [.ref (w 0), .int p1] (PE D cs (mW cs w M))) (va_Qv (fun u : MS => u = (sX8_stir M p1)) (fun u t => va_P D vwC (mW cs w u) t.heap) (mA w)) 0 0 (mA w) := by
  obtain ⟨v, hv⟩ : ∃ v, sX8_stir M p1 = v := ⟨_, rfl⟩
  rw [hv]
  refine met_o (lv := [(0, .ref (w 0)), (1, .int p1)]) (by decide) (Nat.le_of_ble_eq_true rfl) rfl ?_
  intro p e s m args below meth c ls hx hb hr hml hts hown hlocks hin hP hE hl
  have hown : s.vm.findClass RX8 = some m.cls := hown
  have hK := hE.1
  have hP : va_P D vwC (mW cs w M) s.heap := hP
  have hS : va_S (mA w) s.heap s.heap [] := va_S.rf
  unfold sX8_stir at hv
  refine lv_iload_n hx hb dX8_stir_0 rfl (lv_at hl 1 rfl) ?_
  refine lv_bipush (v := 16) hx hb dX8_stir_1 (by decide) ?_
  refine lv_idiv hx hb dX8_stir_3 (by decide) ?_
  refine lv_bipush (v := 10) hx hb dX8_stir_4 (by decide) ?_
  refine lv_irem hx hb dX8_stir_6 (by decide) ?_
  refine lv_istore_n (lv' := [(2, .int ((p1 / 16) - (p1 / 16) / 10 * 10)), (0, .ref (w 0)), (1, .int p1)]) hx hb dX8_stir_7 rfl hl (by decide) rfl (fun ls hl => ?_)
  refine lv_iload_n hx hb dX8_stir_8 rfl (lv_at hl 2 rfl) ?_
  refine lv_bipush (v := 16) hx hb dX8_stir_9 (by decide) ?_
  refine lv_idiv hx hb dX8_stir_11 (by decide) ?_
  refine lv_bipush (v := 24) hx hb dX8_stir_12 (by decide) ?_
  refine lv_irem hx hb dX8_stir_14 (by decide) ?_
  refine lv_istore_n (lv' := [(3, .int ((p1 / 16) - (p1 / 16) / 24 * 24)), (2, .int ((p1 / 16) - (p1 / 16) / 10 * 10)), (0, .ref (w 0)), (1, .int p1)]) hx hb dX8_stir_15 rfl hl (by decide) rfl (fun ls hl => ?_)
  refine lv_iload_n hx hb dX8_stir_16 rfl (lv_at hl 3 rfl) ?_
  refine lv_bipush (v := 16) hx hb dX8_stir_17 (by decide) ?_
  refine lv_irem hx hb dX8_stir_19 (by decide) ?_
  by_cases c20_0 : (p1 - p1 / 16 * 16) = 0
  · have hv := (if_pos c20_0).symm.trans hv
    refine lv_tableIn (off := 72) (tgt := 92) hx hb dX8_stir_20 (by rw [c20_0]; decide) (by rw [c20_0]; decide) (by rw [c20_0]; rfl) (by decide) ?_
    refine lv_aload_n hx hb dX8_stir_92 rfl (lv_at hl 2 rfl) ?_
    refine va_get (D := D) (ci := 8) (v := .ref (w 2)) (C := RX8) (T := TX8) (N := 14) hx hb hts iw_X8 hown hK hP 0 rfl rfl 2 (by decide) (hts _ w_fl_X8_13) (fun _ h9 => h9) rfl dX8_stir_93 ?_
    refine lv_iload_n hx hb dX8_stir_96 rfl (lv_at hl 1 rfl) ?_
    refine ro_i (b2i (sX8_hasSheet (M.1.2 2) ((p1 / 16) - (p1 / 16) / 10 * 10))) (run_c (va_runS (As := [.ref (w 2), .int ((p1 / 16) - (p1 / 16) / 10 * 10)]) (rest := []) ⟨hx, hb, hml, hown, hts⟩ (c_X8_hasSheet l D cs (w 2) (M.1.2 2) ((p1 / 16) - (p1 / 16) / 10 * 10)) (cwS 2 hts (good_S w_ml_X8_139 w_st_X8_hasSheet w_in_X8 w_co_X8_hasSheet) rfl rfl rfl ⟨rfl, hd_X8_hasSheet⟩ ⟨Nat.le_of_ble_eq_true rfl, Nat.le_of_ble_eq_true rfl⟩) (pe_S (hP.sub (ws' := rowW cs (w 2) (M.1.2 2)) [2] rfl) hE) rfl rfl hl.1 rfl (lv_room (Nat.le_of_ble_eq_true rfl)) dX8_stir_97 ⟨Nat.zero_le _, Nat.zero_le _⟩)) ?_
    refine lv_if_eq (tgt := 128) hx hb dX8_stir_100 (by decide) (fun c100 => ?_) (fun c100 => ?_)
    · have c100 := b2i_f c100
      have hv := (if_neg c100).symm.trans hv
      refine lv_iconst (v := 0) hx hb dX8_stir_128 (by decide) ?_
      refine lv_istore (lv' := [(4, .int 0), (3, .int ((p1 / 16) - (p1 / 16) / 24 * 24)), (2, .int ((p1 / 16) - (p1 / 16) / 10 * 10)), (0, .ref (w 0)), (1, .int p1)]) hx hb dX8_stir_129 hl (by decide) rfl (fun ls hl => ?_)
      refine lv_goto (tgt := 335) hx hb dX8_stir_131 (by decide) ?_
      exact W.vret hx hb hr (fun t ht hW => ⟨⟨M, rfl, hv, pw ht hP⟩, hS.F ht⟩) hS.2.2 dX8_stir_335 (hlocks := hlocks)
    · have c100 := b2i_t c100
      have hv := (if_pos c100).symm.trans hv
      refine lv_aload_n hx hb dX8_stir_103 rfl (lv_at hl 2 rfl) ?_
      refine va_get (D := D) (ci := 8) (v := .ref (w 2)) (C := RX8) (T := TX8) (N := 14) hx hb hts iw_X8 hown hK hP 0 rfl rfl 2 (by decide) (hts _ w_fl_X8_13) (fun _ h9 => h9) rfl dX8_stir_104 ?_
      refine ro_i (b2i (sX8_canDraw (M.1.2 2))) (run_c (va_runS (As := [.ref (w 2)]) (rest := []) ⟨hx, hb, hml, hown, hts⟩ (c_X8_canDraw l D cs (w 2) (M.1.2 2)) (cwS 1 hts (good_S w_ml_X8_142 w_st_X8_canDraw w_in_X8 w_co_X8_canDraw) rfl rfl rfl ⟨rfl, hd_X8_canDraw⟩ ⟨Nat.le_of_ble_eq_true rfl, Nat.le_of_ble_eq_true rfl⟩) (pe_S (hP.sub (ws' := rowW cs (w 2) (M.1.2 2)) [2] rfl) hE) rfl rfl hl.1 rfl (lv_room (Nat.le_of_ble_eq_true rfl)) dX8_stir_107 ⟨Nat.zero_le _, Nat.zero_le _⟩)) ?_
      refine lv_if_eq (tgt := 128) hx hb dX8_stir_110 (by decide) (fun c110 => ?_) (fun c110 => ?_)
      · have c110 := b2i_f c110
        have hv := (if_neg c110).symm.trans hv
        refine lv_iconst (v := 0) hx hb dX8_stir_128 (by decide) ?_
        refine lv_istore (lv' := [(4, .int 0), (3, .int ((p1 / 16) - (p1 / 16) / 24 * 24)), (2, .int ((p1 / 16) - (p1 / 16) / 10 * 10)), (0, .ref (w 0)), (1, .int p1)]) hx hb dX8_stir_129 hl (by decide) rfl (fun ls hl => ?_)
        refine lv_goto (tgt := 335) hx hb dX8_stir_131 (by decide) ?_
        exact W.vret hx hb hr (fun t ht hW => ⟨⟨M, rfl, hv, pw ht hP⟩, hS.F ht⟩) hS.2.2 dX8_stir_335 (hlocks := hlocks)
      · have c110 := b2i_t c110
        have hv := (if_pos c110).symm.trans hv
        refine lv_aload_n hx hb dX8_stir_113 rfl (lv_at hl 2 rfl) ?_
        refine va_get (D := D) (ci := 8) (v := .ref (w 2)) (C := RX8) (T := TX8) (N := 14) hx hb hts iw_X8 hown hK hP 0 rfl rfl 2 (by decide) (hts _ w_fl_X8_13) (fun _ h9 => h9) rfl dX8_stir_114 ?_
        refine lv_iload_n hx hb dX8_stir_117 rfl (lv_at hl 1 rfl) ?_
        obtain ⟨G118, hG118⟩ : ∃ G, sX8_goDraw (M.1.2 2) ((p1 / 16) - (p1 / 16) / 10 * 10) = G := ⟨_, rfl⟩
        have k118 := (c_X8_goDraw l D cs (w 2) (M.1.2 2) ((p1 / 16) - (p1 / 16) / 10 * 10) (cd_in hv2 c110))
        rw [hG118] at k118
        rw [hG118] at hv
        refine w_i (G118) (va_runS (As := [.ref (w 2), .int ((p1 / 16) - (p1 / 16) / 10 * 10)]) (rest := []) ⟨hx, hb, hml, hown, hts⟩ k118 (cwS 2 hts (good_S w_ml_X8_150 w_st_X8_goDraw w_in_X8 w_co_X8_goDraw) rfl rfl rfl ⟨rfl, hd_X8_goDraw⟩ ⟨Nat.le_of_ble_eq_true rfl, Nat.le_of_ble_eq_true rfl⟩) (pe_S (hP.sub (ws' := rowW cs (w 2) (M.1.2 2)) [2] rfl) hE) rfl rfl hl.1 rfl (lv_room (Nat.le_of_ble_eq_true rfl)) dX8_stir_118 ⟨Nat.zero_le _, Nat.zero_le _⟩) hS (fun _ _ h => ⟨2, by decide, h⟩) (fun _ h => ⟨2, by decide, h⟩) (fun t locs hB hz hk hS => ?_)
        have hP : va_P D vwC (mW cs w (msA M 2 ((G118).2))) t.heap := m_up2 hd hP hk hB
        refine join_i (J := 129) (ls := ls) (rest := []) (b2i (if ((G118).1) < 0 then false else true)) ?_ (fun hJ => ?_)
        · refine lv_istore (lv' := [(4, .int (b2i (if ((G118).1) < 0 then false else true))), (3, .int ((p1 / 16) - (p1 / 16) / 24 * 24)), (2, .int ((p1 / 16) - (p1 / 16) / 10 * 10)), (0, .ref (w 0)), (1, .int p1)]) hx hb dX8_stir_129 hl (by decide) rfl (fun ls hl => ?_)
          refine lv_goto (tgt := 335) hx hb dX8_stir_131 (by decide) ?_
          exact W.vret hx hb hr (fun t ht hW => ⟨⟨(msA M 2 ((G118).2)), rfl, hv, pw ht hP⟩, hS.F ht⟩) hS.2.2 dX8_stir_335 (hlocks := hlocks)
        · refine lv_if_lt (tgt := 128) hx hb dX8_stir_121 (by decide) (fun c121 => ?_) (fun c121 => ?_)
          · refine lv_iconst (v := 0) hx hb dX8_stir_128 (by decide) ?_
            exact hJ _ (congrArg b2i ((if_pos c121).trans rfl))
          · refine lv_iconst (v := 1) hx hb dX8_stir_124 (by decide) ?_
            refine lv_goto (tgt := 129) hx hb dX8_stir_125 (by decide) ?_
            exact hJ _ (congrArg b2i ((if_neg c121).trans rfl))
  · have hv := (if_neg c20_0).symm.trans hv
    by_cases c20_1 : (p1 - p1 / 16 * 16) = 1
    · have hv := (if_pos c20_1).symm.trans hv
      refine lv_tableIn (off := 114) (tgt := 134) hx hb dX8_stir_20 (by rw [c20_1]; decide) (by rw [c20_1]; decide) (by rw [c20_1]; rfl) (by decide) ?_
      refine lv_aload_n hx hb dX8_stir_134 rfl (lv_at hl 2 rfl) ?_
      refine va_get (D := D) (ci := 8) (v := .ref (w 2)) (C := RX8) (T := TX8) (N := 14) hx hb hts iw_X8 hown hK hP 0 rfl rfl 2 (by decide) (hts _ w_fl_X8_13) (fun _ h9 => h9) rfl dX8_stir_135 ?_
      refine lv_iload_n hx hb dX8_stir_138 rfl (lv_at hl 1 rfl) ?_
      refine ro_i (b2i (sX8_hasSheet (M.1.2 2) ((p1 / 16) - (p1 / 16) / 10 * 10))) (run_c (va_runS (As := [.ref (w 2), .int ((p1 / 16) - (p1 / 16) / 10 * 10)]) (rest := []) ⟨hx, hb, hml, hown, hts⟩ (c_X8_hasSheet l D cs (w 2) (M.1.2 2) ((p1 / 16) - (p1 / 16) / 10 * 10)) (cwS 2 hts (good_S w_ml_X8_139 w_st_X8_hasSheet w_in_X8 w_co_X8_hasSheet) rfl rfl rfl ⟨rfl, hd_X8_hasSheet⟩ ⟨Nat.le_of_ble_eq_true rfl, Nat.le_of_ble_eq_true rfl⟩) (pe_S (hP.sub (ws' := rowW cs (w 2) (M.1.2 2)) [2] rfl) hE) rfl rfl hl.1 rfl (lv_room (Nat.le_of_ble_eq_true rfl)) dX8_stir_139 ⟨Nat.zero_le _, Nat.zero_le _⟩)) ?_
      refine lv_if_eq (tgt := 182) hx hb dX8_stir_142 (by decide) (fun c142 => ?_) (fun c142 => ?_)
      · have c142 := b2i_f c142
        have hv := (if_neg c142).symm.trans hv
        refine lv_iconst (v := 0) hx hb dX8_stir_182 (by decide) ?_
        refine lv_istore (lv' := [(4, .int 0), (3, .int ((p1 / 16) - (p1 / 16) / 24 * 24)), (2, .int ((p1 / 16) - (p1 / 16) / 10 * 10)), (0, .ref (w 0)), (1, .int p1)]) hx hb dX8_stir_183 hl (by decide) rfl (fun ls hl => ?_)
        refine lv_goto (tgt := 335) hx hb dX8_stir_185 (by decide) ?_
        exact W.vret hx hb hr (fun t ht hW => ⟨⟨M, rfl, hv, pw ht hP⟩, hS.F ht⟩) hS.2.2 dX8_stir_335 (hlocks := hlocks)
      · have c142 := b2i_t c142
        have hv := (if_pos c142).symm.trans hv
        refine lv_aload_n hx hb dX8_stir_145 rfl (lv_at hl 2 rfl) ?_
        refine va_get (D := D) (ci := 8) (v := .ref (w 2)) (C := RX8) (T := TX8) (N := 14) hx hb hts iw_X8 hown hK hP 0 rfl rfl 2 (by decide) (hts _ w_fl_X8_13) (fun _ h9 => h9) rfl dX8_stir_146 ?_
        refine lv_iload_n hx hb dX8_stir_149 rfl (lv_at hl 1 rfl) ?_
        refine ro_i (b2i (sX8_canRevise (M.1.2 2) ((p1 / 16) - (p1 / 16) / 10 * 10))) (run_c (va_runS (As := [.ref (w 2), .int ((p1 / 16) - (p1 / 16) / 10 * 10)]) (rest := []) ⟨hx, hb, hml, hown, hts⟩ (c_X8_canRevise l D cs (w 2) (M.1.2 2) ((p1 / 16) - (p1 / 16) / 10 * 10) ((hasS_t hv2.1.1 c142).v hv2)) (cwS 2 hts (good_S w_ml_X8_162 w_st_X8_canRevise w_in_X8 w_co_X8_canRevise) rfl rfl rfl ⟨rfl, hd_X8_canRevise⟩ ⟨Nat.le_of_ble_eq_true rfl, Nat.le_of_ble_eq_true rfl⟩) (pe_S (hP.sub (ws' := rowW cs (w 2) (M.1.2 2)) [2] rfl) hE) rfl rfl hl.1 rfl (lv_room (Nat.le_of_ble_eq_true rfl)) dX8_stir_150 ⟨Nat.zero_le _, Nat.zero_le _⟩)) ?_
        refine lv_if_eq (tgt := 182) hx hb dX8_stir_153 (by decide) (fun c153 => ?_) (fun c153 => ?_)
        · have c153 := b2i_f c153
          have hv := (if_neg c153).symm.trans hv
          refine lv_iconst (v := 0) hx hb dX8_stir_182 (by decide) ?_
          refine lv_istore (lv' := [(4, .int 0), (3, .int ((p1 / 16) - (p1 / 16) / 24 * 24)), (2, .int ((p1 / 16) - (p1 / 16) / 10 * 10)), (0, .ref (w 0)), (1, .int p1)]) hx hb dX8_stir_183 hl (by decide) rfl (fun ls hl => ?_)
          refine lv_goto (tgt := 335) hx hb dX8_stir_185 (by decide) ?_
          exact W.vret hx hb hr (fun t ht hW => ⟨⟨M, rfl, hv, pw ht hP⟩, hS.F ht⟩) hS.2.2 dX8_stir_335 (hlocks := hlocks)
        · have c153 := b2i_t c153
          have hv := (if_pos c153).symm.trans hv
          refine lv_aload_n hx hb dX8_stir_156 rfl (lv_at hl 2 rfl) ?_
          refine va_get (D := D) (ci := 8) (v := .ref (w 2)) (C := RX8) (T := TX8) (N := 14) hx hb hts iw_X8 hown hK hP 0 rfl rfl 2 (by decide) (hts _ w_fl_X8_13) (fun _ h9 => h9) rfl dX8_stir_157 ?_
          refine lv_iload_n hx hb dX8_stir_160 rfl (lv_at hl 1 rfl) ?_
          refine lv_iconst (v := 1) hx hb dX8_stir_161 (by decide) ?_
          refine lv_iload_n hx hb dX8_stir_162 rfl (lv_at hl 3 rfl) ?_
          refine lv_sipush (v := 256) hx hb dX8_stir_163 (by decide) ?_
          refine lv_idiv hx hb dX8_stir_166 (by decide) ?_
          refine lv_sipush (v := 4095) hx hb dX8_stir_167 (by decide) ?_
          refine lv_irem hx hb dX8_stir_170 (by decide) ?_
          refine lv_iadd hx hb dX8_stir_171 ?_
          obtain ⟨G172, hG172⟩ : ∃ G, sX8_goRevise (M.1.2 2) ((p1 / 16) - (p1 / 16) / 10 * 10) (1 + ((p1 / 256) - (p1 / 256) / 4095 * 4095)) = G := ⟨_, rfl⟩
          have k172 := (c_X8_goRevise l D cs (w 2) (M.1.2 2) ((p1 / 16) - (p1 / 16) / 10 * 10) (1 + ((p1 / 256) - (p1 / 256) / 4095 * 4095)) hv2 (hasS_t hv2.1.1 c142))
          rw [hG172] at k172
          rw [hG172] at hv
          refine w_i (G172) (va_runS (As := [.ref (w 2), .int ((p1 / 16) - (p1 / 16) / 10 * 10), .int (1 + ((p1 / 256) - (p1 / 256) / 4095 * 4095))]) (rest := []) ⟨hx, hb, hml, hown, hts⟩ k172 (cwS 3 hts (good_S w_ml_X8_165 w_st_X8_goRevise w_in_X8 w_co_X8_goRevise) rfl rfl rfl ⟨rfl, hd_X8_goRevise⟩ ⟨Nat.le_of_ble_eq_true rfl, Nat.le_of_ble_eq_true rfl⟩) (pe_S (hP.sub (ws' := rowW cs (w 2) (M.1.2 2)) [2] rfl) hE) rfl rfl hl.1 rfl (lv_room (Nat.le_of_ble_eq_true rfl)) dX8_stir_172 ⟨Nat.zero_le _, Nat.zero_le _⟩) hS (fun _ _ h => ⟨2, by decide, h⟩) (fun _ h => ⟨2, by decide, h⟩) (fun t locs hB hz hk hS => ?_)
          have hP : va_P D vwC (mW cs w (msA M 2 ((G172).2))) t.heap := m_up2 hd hP hk hB
          refine join_i (J := 183) (ls := ls) (rest := []) (b2i (if ((G172).1) < 0 then false else true)) ?_ (fun hJ => ?_)
          · refine lv_istore (lv' := [(4, .int (b2i (if ((G172).1) < 0 then false else true))), (3, .int ((p1 / 16) - (p1 / 16) / 24 * 24)), (2, .int ((p1 / 16) - (p1 / 16) / 10 * 10)), (0, .ref (w 0)), (1, .int p1)]) hx hb dX8_stir_183 hl (by decide) rfl (fun ls hl => ?_)
            refine lv_goto (tgt := 335) hx hb dX8_stir_185 (by decide) ?_
            exact W.vret hx hb hr (fun t ht hW => ⟨⟨(msA M 2 ((G172).2)), rfl, hv, pw ht hP⟩, hS.F ht⟩) hS.2.2 dX8_stir_335 (hlocks := hlocks)
          · refine lv_if_lt (tgt := 182) hx hb dX8_stir_175 (by decide) (fun c175 => ?_) (fun c175 => ?_)
            · refine lv_iconst (v := 0) hx hb dX8_stir_182 (by decide) ?_
              exact hJ _ (congrArg b2i ((if_pos c175).trans rfl))
            · refine lv_iconst (v := 1) hx hb dX8_stir_178 (by decide) ?_
              refine lv_goto (tgt := 183) hx hb dX8_stir_179 (by decide) ?_
              exact hJ _ (congrArg b2i ((if_neg c175).trans rfl))
    · have hv := (if_neg c20_1).symm.trans hv
      by_cases c20_2 : (p1 - p1 / 16 * 16) = 2
      · have hv := (if_pos c20_2).symm.trans hv
        refine lv_tableIn (off := 114) (tgt := 134) hx hb dX8_stir_20 (by rw [c20_2]; decide) (by rw [c20_2]; decide) (by rw [c20_2]; rfl) (by decide) ?_
        refine lv_aload_n hx hb dX8_stir_134 rfl (lv_at hl 2 rfl) ?_
        refine va_get (D := D) (ci := 8) (v := .ref (w 2)) (C := RX8) (T := TX8) (N := 14) hx hb hts iw_X8 hown hK hP 0 rfl rfl 2 (by decide) (hts _ w_fl_X8_13) (fun _ h9 => h9) rfl dX8_stir_135 ?_
        refine lv_iload_n hx hb dX8_stir_138 rfl (lv_at hl 1 rfl) ?_
        refine ro_i (b2i (sX8_hasSheet (M.1.2 2) ((p1 / 16) - (p1 / 16) / 10 * 10))) (run_c (va_runS (As := [.ref (w 2), .int ((p1 / 16) - (p1 / 16) / 10 * 10)]) (rest := []) ⟨hx, hb, hml, hown, hts⟩ (c_X8_hasSheet l D cs (w 2) (M.1.2 2) ((p1 / 16) - (p1 / 16) / 10 * 10)) (cwS 2 hts (good_S w_ml_X8_139 w_st_X8_hasSheet w_in_X8 w_co_X8_hasSheet) rfl rfl rfl ⟨rfl, hd_X8_hasSheet⟩ ⟨Nat.le_of_ble_eq_true rfl, Nat.le_of_ble_eq_true rfl⟩) (pe_S (hP.sub (ws' := rowW cs (w 2) (M.1.2 2)) [2] rfl) hE) rfl rfl hl.1 rfl (lv_room (Nat.le_of_ble_eq_true rfl)) dX8_stir_139 ⟨Nat.zero_le _, Nat.zero_le _⟩)) ?_
        refine lv_if_eq (tgt := 182) hx hb dX8_stir_142 (by decide) (fun c142 => ?_) (fun c142 => ?_)
        · have c142 := b2i_f c142
          have hv := (if_neg c142).symm.trans hv
          refine lv_iconst (v := 0) hx hb dX8_stir_182 (by decide) ?_
          refine lv_istore (lv' := [(4, .int 0), (3, .int ((p1 / 16) - (p1 / 16) / 24 * 24)), (2, .int ((p1 / 16) - (p1 / 16) / 10 * 10)), (0, .ref (w 0)), (1, .int p1)]) hx hb dX8_stir_183 hl (by decide) rfl (fun ls hl => ?_)
          refine lv_goto (tgt := 335) hx hb dX8_stir_185 (by decide) ?_
          exact W.vret hx hb hr (fun t ht hW => ⟨⟨M, rfl, hv, pw ht hP⟩, hS.F ht⟩) hS.2.2 dX8_stir_335 (hlocks := hlocks)
        · have c142 := b2i_t c142
          have hv := (if_pos c142).symm.trans hv
          refine lv_aload_n hx hb dX8_stir_145 rfl (lv_at hl 2 rfl) ?_
          refine va_get (D := D) (ci := 8) (v := .ref (w 2)) (C := RX8) (T := TX8) (N := 14) hx hb hts iw_X8 hown hK hP 0 rfl rfl 2 (by decide) (hts _ w_fl_X8_13) (fun _ h9 => h9) rfl dX8_stir_146 ?_
          refine lv_iload_n hx hb dX8_stir_149 rfl (lv_at hl 1 rfl) ?_
          refine ro_i (b2i (sX8_canRevise (M.1.2 2) ((p1 / 16) - (p1 / 16) / 10 * 10))) (run_c (va_runS (As := [.ref (w 2), .int ((p1 / 16) - (p1 / 16) / 10 * 10)]) (rest := []) ⟨hx, hb, hml, hown, hts⟩ (c_X8_canRevise l D cs (w 2) (M.1.2 2) ((p1 / 16) - (p1 / 16) / 10 * 10) ((hasS_t hv2.1.1 c142).v hv2)) (cwS 2 hts (good_S w_ml_X8_162 w_st_X8_canRevise w_in_X8 w_co_X8_canRevise) rfl rfl rfl ⟨rfl, hd_X8_canRevise⟩ ⟨Nat.le_of_ble_eq_true rfl, Nat.le_of_ble_eq_true rfl⟩) (pe_S (hP.sub (ws' := rowW cs (w 2) (M.1.2 2)) [2] rfl) hE) rfl rfl hl.1 rfl (lv_room (Nat.le_of_ble_eq_true rfl)) dX8_stir_150 ⟨Nat.zero_le _, Nat.zero_le _⟩)) ?_
          refine lv_if_eq (tgt := 182) hx hb dX8_stir_153 (by decide) (fun c153 => ?_) (fun c153 => ?_)
          · have c153 := b2i_f c153
            have hv := (if_neg c153).symm.trans hv
            refine lv_iconst (v := 0) hx hb dX8_stir_182 (by decide) ?_
            refine lv_istore (lv' := [(4, .int 0), (3, .int ((p1 / 16) - (p1 / 16) / 24 * 24)), (2, .int ((p1 / 16) - (p1 / 16) / 10 * 10)), (0, .ref (w 0)), (1, .int p1)]) hx hb dX8_stir_183 hl (by decide) rfl (fun ls hl => ?_)
            refine lv_goto (tgt := 335) hx hb dX8_stir_185 (by decide) ?_
            exact W.vret hx hb hr (fun t ht hW => ⟨⟨M, rfl, hv, pw ht hP⟩, hS.F ht⟩) hS.2.2 dX8_stir_335 (hlocks := hlocks)
          · have c153 := b2i_t c153
            have hv := (if_pos c153).symm.trans hv
            refine lv_aload_n hx hb dX8_stir_156 rfl (lv_at hl 2 rfl) ?_
            refine va_get (D := D) (ci := 8) (v := .ref (w 2)) (C := RX8) (T := TX8) (N := 14) hx hb hts iw_X8 hown hK hP 0 rfl rfl 2 (by decide) (hts _ w_fl_X8_13) (fun _ h9 => h9) rfl dX8_stir_157 ?_
            refine lv_iload_n hx hb dX8_stir_160 rfl (lv_at hl 1 rfl) ?_
            refine lv_iconst (v := 1) hx hb dX8_stir_161 (by decide) ?_
            refine lv_iload_n hx hb dX8_stir_162 rfl (lv_at hl 3 rfl) ?_
            refine lv_sipush (v := 256) hx hb dX8_stir_163 (by decide) ?_
            refine lv_idiv hx hb dX8_stir_166 (by decide) ?_
            refine lv_sipush (v := 4095) hx hb dX8_stir_167 (by decide) ?_
            refine lv_irem hx hb dX8_stir_170 (by decide) ?_
            refine lv_iadd hx hb dX8_stir_171 ?_
            obtain ⟨G172, hG172⟩ : ∃ G, sX8_goRevise (M.1.2 2) ((p1 / 16) - (p1 / 16) / 10 * 10) (1 + ((p1 / 256) - (p1 / 256) / 4095 * 4095)) = G := ⟨_, rfl⟩
            have k172 := (c_X8_goRevise l D cs (w 2) (M.1.2 2) ((p1 / 16) - (p1 / 16) / 10 * 10) (1 + ((p1 / 256) - (p1 / 256) / 4095 * 4095)) hv2 (hasS_t hv2.1.1 c142))
            rw [hG172] at k172
            rw [hG172] at hv
            refine w_i (G172) (va_runS (As := [.ref (w 2), .int ((p1 / 16) - (p1 / 16) / 10 * 10), .int (1 + ((p1 / 256) - (p1 / 256) / 4095 * 4095))]) (rest := []) ⟨hx, hb, hml, hown, hts⟩ k172 (cwS 3 hts (good_S w_ml_X8_165 w_st_X8_goRevise w_in_X8 w_co_X8_goRevise) rfl rfl rfl ⟨rfl, hd_X8_goRevise⟩ ⟨Nat.le_of_ble_eq_true rfl, Nat.le_of_ble_eq_true rfl⟩) (pe_S (hP.sub (ws' := rowW cs (w 2) (M.1.2 2)) [2] rfl) hE) rfl rfl hl.1 rfl (lv_room (Nat.le_of_ble_eq_true rfl)) dX8_stir_172 ⟨Nat.zero_le _, Nat.zero_le _⟩) hS (fun _ _ h => ⟨2, by decide, h⟩) (fun _ h => ⟨2, by decide, h⟩) (fun t locs hB hz hk hS => ?_)
            have hP : va_P D vwC (mW cs w (msA M 2 ((G172).2))) t.heap := m_up2 hd hP hk hB
            refine join_i (J := 183) (ls := ls) (rest := []) (b2i (if ((G172).1) < 0 then false else true)) ?_ (fun hJ => ?_)
            · refine lv_istore (lv' := [(4, .int (b2i (if ((G172).1) < 0 then false else true))), (3, .int ((p1 / 16) - (p1 / 16) / 24 * 24)), (2, .int ((p1 / 16) - (p1 / 16) / 10 * 10)), (0, .ref (w 0)), (1, .int p1)]) hx hb dX8_stir_183 hl (by decide) rfl (fun ls hl => ?_)
              refine lv_goto (tgt := 335) hx hb dX8_stir_185 (by decide) ?_
              exact W.vret hx hb hr (fun t ht hW => ⟨⟨(msA M 2 ((G172).2)), rfl, hv, pw ht hP⟩, hS.F ht⟩) hS.2.2 dX8_stir_335 (hlocks := hlocks)
            · refine lv_if_lt (tgt := 182) hx hb dX8_stir_175 (by decide) (fun c175 => ?_) (fun c175 => ?_)
              · refine lv_iconst (v := 0) hx hb dX8_stir_182 (by decide) ?_
                exact hJ _ (congrArg b2i ((if_pos c175).trans rfl))
              · refine lv_iconst (v := 1) hx hb dX8_stir_178 (by decide) ?_
                refine lv_goto (tgt := 183) hx hb dX8_stir_179 (by decide) ?_
                exact hJ _ (congrArg b2i ((if_neg c175).trans rfl))
      · have hv := (if_neg c20_2).symm.trans hv
        by_cases c20_3 : (p1 - p1 / 16 * 16) = 3
        · have hv := (if_pos c20_3).symm.trans hv
          refine lv_tableIn (off := 168) (tgt := 188) hx hb dX8_stir_20 (by rw [c20_3]; decide) (by rw [c20_3]; decide) (by rw [c20_3]; rfl) (by decide) ?_
          refine lv_aload_n hx hb dX8_stir_188 rfl (lv_at hl 2 rfl) ?_
          refine lv_iload_n hx hb dX8_stir_189 rfl (lv_at hl 1 rfl) ?_
          obtain ⟨G190, hG190⟩ : ∃ G, sX8_runCheck M ((p1 / 16) - (p1 / 16) / 10 * 10) = G := ⟨_, rfl⟩
          have k190 := (c_X8_runCheck l D cs w M ((p1 / 16) - (p1 / 16) / 10 * 10) hd hv2)
          rw [hG190] at k190
          rw [hG190] at hv
          refine w_b (G190) (va_runV (As := [.int ((p1 / 16) - (p1 / 16) / 10 * 10)]) (rest := []) ⟨hx, hb, hml, hown, hts⟩ k190 (cwV 1 hts (good_V w_ml_X8_311 w_im_X8_runCheck w_se_X8_runCheck w_in_X8 w_co_X8_runCheck) rfl rfl rfl ⟨rfl, hd_X8_runCheck⟩ ⟨Nat.le_of_ble_eq_true rfl, Nat.le_of_ble_eq_true rfl⟩) (pe_W (C := RX8) (T := TX8) (N := 14) (ci := 8) (q0 := 0) hP hE rfl rfl) rfl rfl hl.1 rfl (lv_room (Nat.le_of_ble_eq_true rfl)) dX8_stir_190 ⟨Nat.zero_le _, Nat.zero_le _⟩) hS (fun _ _ h => h) (fun _ h => h) (fun t locs hB hz hk hS => ?_)
          have hP : va_P D vwC (mW cs w ((G190).2)) t.heap := hB
          refine lv_istore (lv' := [(4, .int (b2i (G190).1)), (3, .int ((p1 / 16) - (p1 / 16) / 24 * 24)), (2, .int ((p1 / 16) - (p1 / 16) / 10 * 10)), (0, .ref (w 0)), (1, .int p1)]) hx hb dX8_stir_193 hl (by decide) rfl (fun ls hl => ?_)
          refine lv_goto (tgt := 335) hx hb dX8_stir_195 (by decide) ?_
          exact W.vret hx hb hr (fun t ht hW => ⟨⟨((G190).2), rfl, hv, pw ht hP⟩, hS.F ht⟩) hS.2.2 dX8_stir_335 (hlocks := hlocks)
        · have hv := (if_neg c20_3).symm.trans hv
          by_cases c20_4 : (p1 - p1 / 16 * 16) = 4
          · have hv := (if_pos c20_4).symm.trans hv
            refine lv_tableIn (off := 178) (tgt := 198) hx hb dX8_stir_20 (by rw [c20_4]; decide) (by rw [c20_4]; decide) (by rw [c20_4]; rfl) (by decide) ?_
            refine lv_aload_n hx hb dX8_stir_198 rfl (lv_at hl 2 rfl) ?_
            refine lv_iload_n hx hb dX8_stir_199 rfl (lv_at hl 1 rfl) ?_
            refine lv_iload_n hx hb dX8_stir_200 rfl (lv_at hl 3 rfl) ?_
            refine lv_sipush (v := 256) hx hb dX8_stir_201 (by decide) ?_
            refine lv_idiv hx hb dX8_stir_204 (by decide) ?_
            refine lv_iconst (v := 4) hx hb dX8_stir_205 (by decide) ?_
            refine lv_irem hx hb dX8_stir_206 (by decide) ?_
            obtain ⟨G207, hG207⟩ : ∃ G, sX8_runPrint M ((p1 / 16) - (p1 / 16) / 10 * 10) ((p1 / 256) - (p1 / 256) / 4 * 4) = G := ⟨_, rfl⟩
            have k207 := (c_X8_runPrint l D cs w M ((p1 / 16) - (p1 / 16) / 10 * 10) ((p1 / 256) - (p1 / 256) / 4 * 4) hd hv2)
            rw [hG207] at k207
            rw [hG207] at hv
            refine w_b (G207) (va_runV (As := [.int ((p1 / 16) - (p1 / 16) / 10 * 10), .int ((p1 / 256) - (p1 / 256) / 4 * 4)]) (rest := []) ⟨hx, hb, hml, hown, hts⟩ k207 (cwV 2 hts (good_V w_ml_X8_296 w_im_X8_runPrint w_se_X8_runPrint w_in_X8 w_co_X8_runPrint) rfl rfl rfl ⟨rfl, hd_X8_runPrint⟩ ⟨Nat.le_of_ble_eq_true rfl, Nat.le_of_ble_eq_true rfl⟩) (pe_W (C := RX8) (T := TX8) (N := 14) (ci := 8) (q0 := 0) hP hE rfl rfl) rfl rfl hl.1 rfl (lv_room (Nat.le_of_ble_eq_true rfl)) dX8_stir_207 ⟨Nat.zero_le _, Nat.zero_le _⟩) hS (fun _ _ h => h) (fun _ h => h) (fun t locs hB hz hk hS => ?_)
            have hP : va_P D vwC (mW cs w ((G207).2)) t.heap := hB
            refine lv_istore (lv' := [(4, .int (b2i (G207).1)), (3, .int ((p1 / 16) - (p1 / 16) / 24 * 24)), (2, .int ((p1 / 16) - (p1 / 16) / 10 * 10)), (0, .ref (w 0)), (1, .int p1)]) hx hb dX8_stir_210 hl (by decide) rfl (fun ls hl => ?_)
            refine lv_goto (tgt := 335) hx hb dX8_stir_212 (by decide) ?_
            exact W.vret hx hb hr (fun t ht hW => ⟨⟨((G207).2), rfl, hv, pw ht hP⟩, hS.F ht⟩) hS.2.2 dX8_stir_335 (hlocks := hlocks)
          · have hv := (if_neg c20_4).symm.trans hv
            by_cases c20_5 : (p1 - p1 / 16 * 16) = 5
            · have hv := (if_pos c20_5).symm.trans hv
              refine lv_tableIn (off := 178) (tgt := 198) hx hb dX8_stir_20 (by rw [c20_5]; decide) (by rw [c20_5]; decide) (by rw [c20_5]; rfl) (by decide) ?_
              refine lv_aload_n hx hb dX8_stir_198 rfl (lv_at hl 2 rfl) ?_
              refine lv_iload_n hx hb dX8_stir_199 rfl (lv_at hl 1 rfl) ?_
              refine lv_iload_n hx hb dX8_stir_200 rfl (lv_at hl 3 rfl) ?_
              refine lv_sipush (v := 256) hx hb dX8_stir_201 (by decide) ?_
              refine lv_idiv hx hb dX8_stir_204 (by decide) ?_
              refine lv_iconst (v := 4) hx hb dX8_stir_205 (by decide) ?_
              refine lv_irem hx hb dX8_stir_206 (by decide) ?_
              obtain ⟨G207, hG207⟩ : ∃ G, sX8_runPrint M ((p1 / 16) - (p1 / 16) / 10 * 10) ((p1 / 256) - (p1 / 256) / 4 * 4) = G := ⟨_, rfl⟩
              have k207 := (c_X8_runPrint l D cs w M ((p1 / 16) - (p1 / 16) / 10 * 10) ((p1 / 256) - (p1 / 256) / 4 * 4) hd hv2)
              rw [hG207] at k207
              rw [hG207] at hv
              refine w_b (G207) (va_runV (As := [.int ((p1 / 16) - (p1 / 16) / 10 * 10), .int ((p1 / 256) - (p1 / 256) / 4 * 4)]) (rest := []) ⟨hx, hb, hml, hown, hts⟩ k207 (cwV 2 hts (good_V w_ml_X8_296 w_im_X8_runPrint w_se_X8_runPrint w_in_X8 w_co_X8_runPrint) rfl rfl rfl ⟨rfl, hd_X8_runPrint⟩ ⟨Nat.le_of_ble_eq_true rfl, Nat.le_of_ble_eq_true rfl⟩) (pe_W (C := RX8) (T := TX8) (N := 14) (ci := 8) (q0 := 0) hP hE rfl rfl) rfl rfl hl.1 rfl (lv_room (Nat.le_of_ble_eq_true rfl)) dX8_stir_207 ⟨Nat.zero_le _, Nat.zero_le _⟩) hS (fun _ _ h => h) (fun _ h => h) (fun t locs hB hz hk hS => ?_)
              have hP : va_P D vwC (mW cs w ((G207).2)) t.heap := hB
              refine lv_istore (lv' := [(4, .int (b2i (G207).1)), (3, .int ((p1 / 16) - (p1 / 16) / 24 * 24)), (2, .int ((p1 / 16) - (p1 / 16) / 10 * 10)), (0, .ref (w 0)), (1, .int p1)]) hx hb dX8_stir_210 hl (by decide) rfl (fun ls hl => ?_)
              refine lv_goto (tgt := 335) hx hb dX8_stir_212 (by decide) ?_
              exact W.vret hx hb hr (fun t ht hW => ⟨⟨((G207).2), rfl, hv, pw ht hP⟩, hS.F ht⟩) hS.2.2 dX8_stir_335 (hlocks := hlocks)
            · have hv := (if_neg c20_5).symm.trans hv
              by_cases c20_6 : (p1 - p1 / 16 * 16) = 6
              · have hv := (if_pos c20_6).symm.trans hv
                refine lv_tableIn (off := 178) (tgt := 198) hx hb dX8_stir_20 (by rw [c20_6]; decide) (by rw [c20_6]; decide) (by rw [c20_6]; rfl) (by decide) ?_
                refine lv_aload_n hx hb dX8_stir_198 rfl (lv_at hl 2 rfl) ?_
                refine lv_iload_n hx hb dX8_stir_199 rfl (lv_at hl 1 rfl) ?_
                refine lv_iload_n hx hb dX8_stir_200 rfl (lv_at hl 3 rfl) ?_
                refine lv_sipush (v := 256) hx hb dX8_stir_201 (by decide) ?_
                refine lv_idiv hx hb dX8_stir_204 (by decide) ?_
                refine lv_iconst (v := 4) hx hb dX8_stir_205 (by decide) ?_
                refine lv_irem hx hb dX8_stir_206 (by decide) ?_
                obtain ⟨G207, hG207⟩ : ∃ G, sX8_runPrint M ((p1 / 16) - (p1 / 16) / 10 * 10) ((p1 / 256) - (p1 / 256) / 4 * 4) = G := ⟨_, rfl⟩
                have k207 := (c_X8_runPrint l D cs w M ((p1 / 16) - (p1 / 16) / 10 * 10) ((p1 / 256) - (p1 / 256) / 4 * 4) hd hv2)
                rw [hG207] at k207
                rw [hG207] at hv
                refine w_b (G207) (va_runV (As := [.int ((p1 / 16) - (p1 / 16) / 10 * 10), .int ((p1 / 256) - (p1 / 256) / 4 * 4)]) (rest := []) ⟨hx, hb, hml, hown, hts⟩ k207 (cwV 2 hts (good_V w_ml_X8_296 w_im_X8_runPrint w_se_X8_runPrint w_in_X8 w_co_X8_runPrint) rfl rfl rfl ⟨rfl, hd_X8_runPrint⟩ ⟨Nat.le_of_ble_eq_true rfl, Nat.le_of_ble_eq_true rfl⟩) (pe_W (C := RX8) (T := TX8) (N := 14) (ci := 8) (q0 := 0) hP hE rfl rfl) rfl rfl hl.1 rfl (lv_room (Nat.le_of_ble_eq_true rfl)) dX8_stir_207 ⟨Nat.zero_le _, Nat.zero_le _⟩) hS (fun _ _ h => h) (fun _ h => h) (fun t locs hB hz hk hS => ?_)
                have hP : va_P D vwC (mW cs w ((G207).2)) t.heap := hB
                refine lv_istore (lv' := [(4, .int (b2i (G207).1)), (3, .int ((p1 / 16) - (p1 / 16) / 24 * 24)), (2, .int ((p1 / 16) - (p1 / 16) / 10 * 10)), (0, .ref (w 0)), (1, .int p1)]) hx hb dX8_stir_210 hl (by decide) rfl (fun ls hl => ?_)
                refine lv_goto (tgt := 335) hx hb dX8_stir_212 (by decide) ?_
                exact W.vret hx hb hr (fun t ht hW => ⟨⟨((G207).2), rfl, hv, pw ht hP⟩, hS.F ht⟩) hS.2.2 dX8_stir_335 (hlocks := hlocks)
              · have hv := (if_neg c20_6).symm.trans hv
                by_cases c20_7 : (p1 - p1 / 16 * 16) = 7
                · have hv := (if_pos c20_7).symm.trans hv
                  refine lv_tableIn (off := 195) (tgt := 215) hx hb dX8_stir_20 (by rw [c20_7]; decide) (by rw [c20_7]; decide) (by rw [c20_7]; rfl) (by decide) ?_
                  refine lv_aload_n hx hb dX8_stir_215 rfl (lv_at hl 2 rfl) ?_
                  refine lv_iload_n hx hb dX8_stir_216 rfl (lv_at hl 0 rfl) ?_
                  refine lv_iload_n hx hb dX8_stir_217 rfl (lv_at hl 3 rfl) ?_
                  refine lv_sipush (v := 512) hx hb dX8_stir_218 (by decide) ?_
                  refine lv_idiv hx hb dX8_stir_221 (by decide) ?_
                  refine lv_iconst (v := 3) hx hb dX8_stir_222 (by decide) ?_
                  refine lv_irem hx hb dX8_stir_223 (by decide) ?_
                  obtain ⟨G224, hG224⟩ : ∃ G, sX8_runStamp M ((p1 / 16) - (p1 / 16) / 24 * 24) ((p1 / 512) - (p1 / 512) / 3 * 3) = G := ⟨_, rfl⟩
                  have k224 := (c_X8_runStamp l D cs w M ((p1 / 16) - (p1 / 16) / 24 * 24) ((p1 / 512) - (p1 / 512) / 3 * 3) hd hv2)
                  rw [hG224] at k224
                  rw [hG224] at hv
                  refine w_b (G224) (va_runV (As := [.int ((p1 / 16) - (p1 / 16) / 24 * 24), .int ((p1 / 512) - (p1 / 512) / 3 * 3)]) (rest := []) ⟨hx, hb, hml, hown, hts⟩ k224 (cwV 2 hts (good_V w_ml_X8_299 w_im_X8_runStamp w_se_X8_runStamp w_in_X8 w_co_X8_runStamp) rfl rfl rfl ⟨rfl, hd_X8_runStamp⟩ ⟨Nat.le_of_ble_eq_true rfl, Nat.le_of_ble_eq_true rfl⟩) (pe_W (C := RX8) (T := TX8) (N := 14) (ci := 8) (q0 := 0) hP hE rfl rfl) rfl rfl hl.1 rfl (lv_room (Nat.le_of_ble_eq_true rfl)) dX8_stir_224 ⟨Nat.zero_le _, Nat.zero_le _⟩) hS (fun _ _ h => h) (fun _ h => h) (fun t locs hB hz hk hS => ?_)
                  have hP : va_P D vwC (mW cs w ((G224).2)) t.heap := hB
                  refine lv_istore (lv' := [(4, .int (b2i (G224).1)), (3, .int ((p1 / 16) - (p1 / 16) / 24 * 24)), (2, .int ((p1 / 16) - (p1 / 16) / 10 * 10)), (0, .ref (w 0)), (1, .int p1)]) hx hb dX8_stir_227 hl (by decide) rfl (fun ls hl => ?_)
                  refine lv_goto (tgt := 335) hx hb dX8_stir_229 (by decide) ?_
                  exact W.vret hx hb hr (fun t ht hW => ⟨⟨((G224).2), rfl, hv, pw ht hP⟩, hS.F ht⟩) hS.2.2 dX8_stir_335 (hlocks := hlocks)
                · have hv := (if_neg c20_7).symm.trans hv
                  by_cases c20_8 : (p1 - p1 / 16 * 16) = 8
                  · have hv := (if_pos c20_8).symm.trans hv
                    refine lv_tableIn (off := 195) (tgt := 215) hx hb dX8_stir_20 (by rw [c20_8]; decide) (by rw [c20_8]; decide) (by rw [c20_8]; rfl) (by decide) ?_
                    refine lv_aload_n hx hb dX8_stir_215 rfl (lv_at hl 2 rfl) ?_
                    refine lv_iload_n hx hb dX8_stir_216 rfl (lv_at hl 0 rfl) ?_
                    refine lv_iload_n hx hb dX8_stir_217 rfl (lv_at hl 3 rfl) ?_
                    refine lv_sipush (v := 512) hx hb dX8_stir_218 (by decide) ?_
                    refine lv_idiv hx hb dX8_stir_221 (by decide) ?_
                    refine lv_iconst (v := 3) hx hb dX8_stir_222 (by decide) ?_
                    refine lv_irem hx hb dX8_stir_223 (by decide) ?_
                    obtain ⟨G224, hG224⟩ : ∃ G, sX8_runStamp M ((p1 / 16) - (p1 / 16) / 24 * 24) ((p1 / 512) - (p1 / 512) / 3 * 3) = G := ⟨_, rfl⟩
                    have k224 := (c_X8_runStamp l D cs w M ((p1 / 16) - (p1 / 16) / 24 * 24) ((p1 / 512) - (p1 / 512) / 3 * 3) hd hv2)
                    rw [hG224] at k224
                    rw [hG224] at hv
                    refine w_b (G224) (va_runV (As := [.int ((p1 / 16) - (p1 / 16) / 24 * 24), .int ((p1 / 512) - (p1 / 512) / 3 * 3)]) (rest := []) ⟨hx, hb, hml, hown, hts⟩ k224 (cwV 2 hts (good_V w_ml_X8_299 w_im_X8_runStamp w_se_X8_runStamp w_in_X8 w_co_X8_runStamp) rfl rfl rfl ⟨rfl, hd_X8_runStamp⟩ ⟨Nat.le_of_ble_eq_true rfl, Nat.le_of_ble_eq_true rfl⟩) (pe_W (C := RX8) (T := TX8) (N := 14) (ci := 8) (q0 := 0) hP hE rfl rfl) rfl rfl hl.1 rfl (lv_room (Nat.le_of_ble_eq_true rfl)) dX8_stir_224 ⟨Nat.zero_le _, Nat.zero_le _⟩) hS (fun _ _ h => h) (fun _ h => h) (fun t locs hB hz hk hS => ?_)
                    have hP : va_P D vwC (mW cs w ((G224).2)) t.heap := hB
                    refine lv_istore (lv' := [(4, .int (b2i (G224).1)), (3, .int ((p1 / 16) - (p1 / 16) / 24 * 24)), (2, .int ((p1 / 16) - (p1 / 16) / 10 * 10)), (0, .ref (w 0)), (1, .int p1)]) hx hb dX8_stir_227 hl (by decide) rfl (fun ls hl => ?_)
                    refine lv_goto (tgt := 335) hx hb dX8_stir_229 (by decide) ?_
                    exact W.vret hx hb hr (fun t ht hW => ⟨⟨((G224).2), rfl, hv, pw ht hP⟩, hS.F ht⟩) hS.2.2 dX8_stir_335 (hlocks := hlocks)
                  · have hv := (if_neg c20_8).symm.trans hv
                    by_cases c20_9 : (p1 - p1 / 16 * 16) = 9
                    · have hv := (if_pos c20_9).symm.trans hv
                      refine lv_tableIn (off := 212) (tgt := 232) hx hb dX8_stir_20 (by rw [c20_9]; decide) (by rw [c20_9]; decide) (by rw [c20_9]; rfl) (by decide) ?_
                      refine lv_aload_n hx hb dX8_stir_232 rfl (lv_at hl 2 rfl) ?_
                      refine lv_iload_n hx hb dX8_stir_233 rfl (lv_at hl 0 rfl) ?_
                      obtain ⟨G234, hG234⟩ : ∃ G, sX8_runBack M ((p1 / 16) - (p1 / 16) / 24 * 24) = G := ⟨_, rfl⟩
                      have k234 := (c_X8_runBack l D cs w M ((p1 / 16) - (p1 / 16) / 24 * 24) hd hv2)
                      rw [hG234] at k234
                      rw [hG234] at hv
                      refine w_b (G234) (va_runV (As := [.int ((p1 / 16) - (p1 / 16) / 24 * 24)]) (rest := []) ⟨hx, hb, hml, hown, hts⟩ k234 (cwV 1 hts (good_V w_ml_X8_308 w_im_X8_runBack w_se_X8_runBack w_in_X8 w_co_X8_runBack) rfl rfl rfl ⟨rfl, hd_X8_runBack⟩ ⟨Nat.le_of_ble_eq_true rfl, Nat.le_of_ble_eq_true rfl⟩) (pe_W (C := RX8) (T := TX8) (N := 14) (ci := 8) (q0 := 0) hP hE rfl rfl) rfl rfl hl.1 rfl (lv_room (Nat.le_of_ble_eq_true rfl)) dX8_stir_234 ⟨Nat.zero_le _, Nat.zero_le _⟩) hS (fun _ _ h => h) (fun _ h => h) (fun t locs hB hz hk hS => ?_)
                      have hP : va_P D vwC (mW cs w ((G234).2)) t.heap := hB
                      refine lv_istore (lv' := [(4, .int (b2i (G234).1)), (3, .int ((p1 / 16) - (p1 / 16) / 24 * 24)), (2, .int ((p1 / 16) - (p1 / 16) / 10 * 10)), (0, .ref (w 0)), (1, .int p1)]) hx hb dX8_stir_237 hl (by decide) rfl (fun ls hl => ?_)
                      refine lv_goto (tgt := 335) hx hb dX8_stir_239 (by decide) ?_
                      exact W.vret hx hb hr (fun t ht hW => ⟨⟨((G234).2), rfl, hv, pw ht hP⟩, hS.F ht⟩) hS.2.2 dX8_stir_335 (hlocks := hlocks)
                    · have hv := (if_neg c20_9).symm.trans hv
                      by_cases c20_10 : (p1 - p1 / 16 * 16) = 10
                      · have hv := (if_pos c20_10).symm.trans hv
                        refine lv_tableIn (off := 222) (tgt := 242) hx hb dX8_stir_20 (by rw [c20_10]; decide) (by rw [c20_10]; decide) (by rw [c20_10]; rfl) (by decide) ?_
                        refine lv_aload_n hx hb dX8_stir_242 rfl (lv_at hl 2 rfl) ?_
                        refine lv_iload_n hx hb dX8_stir_243 rfl (lv_at hl 0 rfl) ?_
                        refine lv_iload_n hx hb dX8_stir_244 rfl (lv_at hl 3 rfl) ?_
                        refine lv_sipush (v := 512) hx hb dX8_stir_245 (by decide) ?_
                        refine lv_idiv hx hb dX8_stir_248 (by decide) ?_
                        refine lv_bipush (v := 12) hx hb dX8_stir_249 (by decide) ?_
                        refine lv_irem hx hb dX8_stir_251 (by decide) ?_
                        obtain ⟨G252, hG252⟩ : ∃ G, sX8_runBuild M ((p1 / 16) - (p1 / 16) / 24 * 24) ((p1 / 512) - (p1 / 512) / 12 * 12) = G := ⟨_, rfl⟩
                        have k252 := (c_X8_runBuild l D cs w M ((p1 / 16) - (p1 / 16) / 24 * 24) ((p1 / 512) - (p1 / 512) / 12 * 12) hd hv2)
                        rw [hG252] at k252
                        rw [hG252] at hv
                        refine w_b (G252) (va_runV (As := [.int ((p1 / 16) - (p1 / 16) / 24 * 24), .int ((p1 / 512) - (p1 / 512) / 12 * 12)]) (rest := []) ⟨hx, hb, hml, hown, hts⟩ k252 (cwV 2 hts (good_V w_ml_X8_302 w_im_X8_runBuild w_se_X8_runBuild w_in_X8 w_co_X8_runBuild) rfl rfl rfl ⟨rfl, hd_X8_runBuild⟩ ⟨Nat.le_of_ble_eq_true rfl, Nat.le_of_ble_eq_true rfl⟩) (pe_W (C := RX8) (T := TX8) (N := 14) (ci := 8) (q0 := 0) hP hE rfl rfl) rfl rfl hl.1 rfl (lv_room (Nat.le_of_ble_eq_true rfl)) dX8_stir_252 ⟨Nat.zero_le _, Nat.zero_le _⟩) hS (fun _ _ h => h) (fun _ h => h) (fun t locs hB hz hk hS => ?_)
                        have hP : va_P D vwC (mW cs w ((G252).2)) t.heap := hB
                        refine lv_istore (lv' := [(4, .int (b2i (G252).1)), (3, .int ((p1 / 16) - (p1 / 16) / 24 * 24)), (2, .int ((p1 / 16) - (p1 / 16) / 10 * 10)), (0, .ref (w 0)), (1, .int p1)]) hx hb dX8_stir_255 hl (by decide) rfl (fun ls hl => ?_)
                        refine lv_goto (tgt := 335) hx hb dX8_stir_257 (by decide) ?_
                        exact W.vret hx hb hr (fun t ht hW => ⟨⟨((G252).2), rfl, hv, pw ht hP⟩, hS.F ht⟩) hS.2.2 dX8_stir_335 (hlocks := hlocks)
                      · have hv := (if_neg c20_10).symm.trans hv
                        by_cases c20_11 : (p1 - p1 / 16 * 16) = 11
                        · have hv := (if_pos c20_11).symm.trans hv
                          refine lv_tableIn (off := 222) (tgt := 242) hx hb dX8_stir_20 (by rw [c20_11]; decide) (by rw [c20_11]; decide) (by rw [c20_11]; rfl) (by decide) ?_
                          refine lv_aload_n hx hb dX8_stir_242 rfl (lv_at hl 2 rfl) ?_
                          refine lv_iload_n hx hb dX8_stir_243 rfl (lv_at hl 0 rfl) ?_
                          refine lv_iload_n hx hb dX8_stir_244 rfl (lv_at hl 3 rfl) ?_
                          refine lv_sipush (v := 512) hx hb dX8_stir_245 (by decide) ?_
                          refine lv_idiv hx hb dX8_stir_248 (by decide) ?_
                          refine lv_bipush (v := 12) hx hb dX8_stir_249 (by decide) ?_
                          refine lv_irem hx hb dX8_stir_251 (by decide) ?_
                          obtain ⟨G252, hG252⟩ : ∃ G, sX8_runBuild M ((p1 / 16) - (p1 / 16) / 24 * 24) ((p1 / 512) - (p1 / 512) / 12 * 12) = G := ⟨_, rfl⟩
                          have k252 := (c_X8_runBuild l D cs w M ((p1 / 16) - (p1 / 16) / 24 * 24) ((p1 / 512) - (p1 / 512) / 12 * 12) hd hv2)
                          rw [hG252] at k252
                          rw [hG252] at hv
                          refine w_b (G252) (va_runV (As := [.int ((p1 / 16) - (p1 / 16) / 24 * 24), .int ((p1 / 512) - (p1 / 512) / 12 * 12)]) (rest := []) ⟨hx, hb, hml, hown, hts⟩ k252 (cwV 2 hts (good_V w_ml_X8_302 w_im_X8_runBuild w_se_X8_runBuild w_in_X8 w_co_X8_runBuild) rfl rfl rfl ⟨rfl, hd_X8_runBuild⟩ ⟨Nat.le_of_ble_eq_true rfl, Nat.le_of_ble_eq_true rfl⟩) (pe_W (C := RX8) (T := TX8) (N := 14) (ci := 8) (q0 := 0) hP hE rfl rfl) rfl rfl hl.1 rfl (lv_room (Nat.le_of_ble_eq_true rfl)) dX8_stir_252 ⟨Nat.zero_le _, Nat.zero_le _⟩) hS (fun _ _ h => h) (fun _ h => h) (fun t locs hB hz hk hS => ?_)
                          have hP : va_P D vwC (mW cs w ((G252).2)) t.heap := hB
                          refine lv_istore (lv' := [(4, .int (b2i (G252).1)), (3, .int ((p1 / 16) - (p1 / 16) / 24 * 24)), (2, .int ((p1 / 16) - (p1 / 16) / 10 * 10)), (0, .ref (w 0)), (1, .int p1)]) hx hb dX8_stir_255 hl (by decide) rfl (fun ls hl => ?_)
                          refine lv_goto (tgt := 335) hx hb dX8_stir_257 (by decide) ?_
                          exact W.vret hx hb hr (fun t ht hW => ⟨⟨((G252).2), rfl, hv, pw ht hP⟩, hS.F ht⟩) hS.2.2 dX8_stir_335 (hlocks := hlocks)
                        · have hv := (if_neg c20_11).symm.trans hv
                          by_cases c20_12 : (p1 - p1 / 16 * 16) = 12
                          · have hv := (if_pos c20_12).symm.trans hv
                            refine lv_tableIn (off := 222) (tgt := 242) hx hb dX8_stir_20 (by rw [c20_12]; decide) (by rw [c20_12]; decide) (by rw [c20_12]; rfl) (by decide) ?_
                            refine lv_aload_n hx hb dX8_stir_242 rfl (lv_at hl 2 rfl) ?_
                            refine lv_iload_n hx hb dX8_stir_243 rfl (lv_at hl 0 rfl) ?_
                            refine lv_iload_n hx hb dX8_stir_244 rfl (lv_at hl 3 rfl) ?_
                            refine lv_sipush (v := 512) hx hb dX8_stir_245 (by decide) ?_
                            refine lv_idiv hx hb dX8_stir_248 (by decide) ?_
                            refine lv_bipush (v := 12) hx hb dX8_stir_249 (by decide) ?_
                            refine lv_irem hx hb dX8_stir_251 (by decide) ?_
                            obtain ⟨G252, hG252⟩ : ∃ G, sX8_runBuild M ((p1 / 16) - (p1 / 16) / 24 * 24) ((p1 / 512) - (p1 / 512) / 12 * 12) = G := ⟨_, rfl⟩
                            have k252 := (c_X8_runBuild l D cs w M ((p1 / 16) - (p1 / 16) / 24 * 24) ((p1 / 512) - (p1 / 512) / 12 * 12) hd hv2)
                            rw [hG252] at k252
                            rw [hG252] at hv
                            refine w_b (G252) (va_runV (As := [.int ((p1 / 16) - (p1 / 16) / 24 * 24), .int ((p1 / 512) - (p1 / 512) / 12 * 12)]) (rest := []) ⟨hx, hb, hml, hown, hts⟩ k252 (cwV 2 hts (good_V w_ml_X8_302 w_im_X8_runBuild w_se_X8_runBuild w_in_X8 w_co_X8_runBuild) rfl rfl rfl ⟨rfl, hd_X8_runBuild⟩ ⟨Nat.le_of_ble_eq_true rfl, Nat.le_of_ble_eq_true rfl⟩) (pe_W (C := RX8) (T := TX8) (N := 14) (ci := 8) (q0 := 0) hP hE rfl rfl) rfl rfl hl.1 rfl (lv_room (Nat.le_of_ble_eq_true rfl)) dX8_stir_252 ⟨Nat.zero_le _, Nat.zero_le _⟩) hS (fun _ _ h => h) (fun _ h => h) (fun t locs hB hz hk hS => ?_)
                            have hP : va_P D vwC (mW cs w ((G252).2)) t.heap := hB
                            refine lv_istore (lv' := [(4, .int (b2i (G252).1)), (3, .int ((p1 / 16) - (p1 / 16) / 24 * 24)), (2, .int ((p1 / 16) - (p1 / 16) / 10 * 10)), (0, .ref (w 0)), (1, .int p1)]) hx hb dX8_stir_255 hl (by decide) rfl (fun ls hl => ?_)
                            refine lv_goto (tgt := 335) hx hb dX8_stir_257 (by decide) ?_
                            exact W.vret hx hb hr (fun t ht hW => ⟨⟨((G252).2), rfl, hv, pw ht hP⟩, hS.F ht⟩) hS.2.2 dX8_stir_335 (hlocks := hlocks)
                          · have hv := (if_neg c20_12).symm.trans hv
                            by_cases c20_13 : (p1 - p1 / 16 * 16) = 13
                            · have hv := (if_pos c20_13).symm.trans hv
                              refine lv_tableIn (off := 240) (tgt := 260) hx hb dX8_stir_20 (by rw [c20_13]; decide) (by rw [c20_13]; decide) (by rw [c20_13]; rfl) (by decide) ?_
                              refine lv_aload_n hx hb dX8_stir_260 rfl (lv_at hl 2 rfl) ?_
                              refine va_get (D := D) (ci := 8) (v := .ref (w 2)) (C := RX8) (T := TX8) (N := 14) hx hb hts iw_X8 hown hK hP 0 rfl rfl 2 (by decide) (hts _ w_fl_X8_13) (fun _ h9 => h9) rfl dX8_stir_261 ?_
                              refine lv_iload_n hx hb dX8_stir_264 rfl (lv_at hl 3 rfl) ?_
                              refine lv_bipush (v := 16) hx hb dX8_stir_265 (by decide) ?_
                              refine lv_idiv hx hb dX8_stir_267 (by decide) ?_
                              refine lv_bipush (v := 30) hx hb dX8_stir_268 (by decide) ?_
                              refine lv_irem hx hb dX8_stir_270 (by decide) ?_
                              refine ro_i (b2i (sX8_hasWork (M.1.2 2) ((p1 / 16) - (p1 / 16) / 30 * 30))) (run_c (va_runS (As := [.ref (w 2), .int ((p1 / 16) - (p1 / 16) / 30 * 30)]) (rest := []) ⟨hx, hb, hml, hown, hts⟩ (c_X8_hasWork l D cs (w 2) (M.1.2 2) ((p1 / 16) - (p1 / 16) / 30 * 30)) (cwS 2 hts (good_S w_ml_X8_243 w_st_X8_hasWork w_in_X8 w_co_X8_hasWork) rfl rfl rfl ⟨rfl, hd_X8_hasWork⟩ ⟨Nat.le_of_ble_eq_true rfl, Nat.le_of_ble_eq_true rfl⟩) (pe_S (hP.sub (ws' := rowW cs (w 2) (M.1.2 2)) [2] rfl) hE) rfl rfl hl.1 rfl (lv_room (Nat.le_of_ble_eq_true rfl)) dX8_stir_271 ⟨Nat.zero_le _, Nat.zero_le _⟩)) ?_
                              refine lv_if_eq (tgt := 315) hx hb dX8_stir_274 (by decide) (fun c274 => ?_) (fun c274 => ?_)
                              · have c274 := b2i_f c274
                                have hv := (if_neg c274).symm.trans hv
                                refine lv_iconst (v := 0) hx hb dX8_stir_315 (by decide) ?_
                                refine lv_istore (lv' := [(4, .int 0), (3, .int ((p1 / 16) - (p1 / 16) / 24 * 24)), (2, .int ((p1 / 16) - (p1 / 16) / 10 * 10)), (0, .ref (w 0)), (1, .int p1)]) hx hb dX8_stir_316 hl (by decide) rfl (fun ls hl => ?_)
                                refine lv_goto (tgt := 335) hx hb dX8_stir_318 (by decide) ?_
                                exact W.vret hx hb hr (fun t ht hW => ⟨⟨M, rfl, hv, pw ht hP⟩, hS.F ht⟩) hS.2.2 dX8_stir_335 (hlocks := hlocks)
                              · have c274 := b2i_t c274
                                have hv := (if_pos c274).symm.trans hv
                                refine lv_aload_n hx hb dX8_stir_277 rfl (lv_at hl 2 rfl) ?_
                                refine va_get (D := D) (ci := 8) (v := .ref (w 2)) (C := RX8) (T := TX8) (N := 14) hx hb hts iw_X8 hown hK hP 0 rfl rfl 2 (by decide) (hts _ w_fl_X8_13) (fun _ h9 => h9) rfl dX8_stir_278 ?_
                                refine lv_iload_n hx hb dX8_stir_281 rfl (lv_at hl 3 rfl) ?_
                                refine lv_bipush (v := 16) hx hb dX8_stir_282 (by decide) ?_
                                refine lv_idiv hx hb dX8_stir_284 (by decide) ?_
                                refine lv_bipush (v := 30) hx hb dX8_stir_285 (by decide) ?_
                                refine lv_irem hx hb dX8_stir_287 (by decide) ?_
                                refine ro_i (b2i (sX8_isWrong (M.1.2 2) ((p1 / 16) - (p1 / 16) / 30 * 30))) (run_c (va_runS (As := [.ref (w 2), .int ((p1 / 16) - (p1 / 16) / 30 * 30)]) (rest := []) ⟨hx, hb, hml, hown, hts⟩ (c_X8_isWrong l D cs (w 2) (M.1.2 2) ((p1 / 16) - (p1 / 16) / 30 * 30) hv2 (hasW_t hv2.2.2.1.1 c274)) (cwS 2 hts (good_S w_ml_X8_81 w_st_X8_isWrong w_in_X8 w_co_X8_isWrong) rfl rfl rfl ⟨rfl, hd_X8_isWrong⟩ ⟨Nat.le_of_ble_eq_true rfl, Nat.le_of_ble_eq_true rfl⟩) (pe_S (hP.sub (ws' := rowW cs (w 2) (M.1.2 2)) [2] rfl) hE) rfl rfl hl.1 rfl (lv_room (Nat.le_of_ble_eq_true rfl)) dX8_stir_288 ⟨Nat.zero_le _, Nat.zero_le _⟩)) ?_
                                refine lv_if_eq (tgt := 315) hx hb dX8_stir_291 (by decide) (fun c291 => ?_) (fun c291 => ?_)
                                · have c291 := b2i_f c291
                                  have hv := (if_neg c291).symm.trans hv
                                  refine lv_iconst (v := 0) hx hb dX8_stir_315 (by decide) ?_
                                  refine lv_istore (lv' := [(4, .int 0), (3, .int ((p1 / 16) - (p1 / 16) / 24 * 24)), (2, .int ((p1 / 16) - (p1 / 16) / 10 * 10)), (0, .ref (w 0)), (1, .int p1)]) hx hb dX8_stir_316 hl (by decide) rfl (fun ls hl => ?_)
                                  refine lv_goto (tgt := 335) hx hb dX8_stir_318 (by decide) ?_
                                  exact W.vret hx hb hr (fun t ht hW => ⟨⟨M, rfl, hv, pw ht hP⟩, hS.F ht⟩) hS.2.2 dX8_stir_335 (hlocks := hlocks)
                                · have c291 := b2i_t c291
                                  have hv := (if_pos c291).symm.trans hv
                                  refine lv_aload_n hx hb dX8_stir_294 rfl (lv_at hl 2 rfl) ?_
                                  refine va_get (D := D) (ci := 8) (v := .ref (w 2)) (C := RX8) (T := TX8) (N := 14) hx hb hts iw_X8 hown hK hP 0 rfl rfl 2 (by decide) (hts _ w_fl_X8_13) (fun _ h9 => h9) rfl dX8_stir_295 ?_
                                  refine lv_iload_n hx hb dX8_stir_298 rfl (lv_at hl 3 rfl) ?_
                                  refine lv_bipush (v := 16) hx hb dX8_stir_299 (by decide) ?_
                                  refine lv_idiv hx hb dX8_stir_301 (by decide) ?_
                                  refine lv_bipush (v := 30) hx hb dX8_stir_302 (by decide) ?_
                                  refine lv_irem hx hb dX8_stir_304 (by decide) ?_
                                  obtain ⟨G305, hG305⟩ : ∃ G, sX8_goMend (M.1.2 2) ((p1 / 16) - (p1 / 16) / 30 * 30) = G := ⟨_, rfl⟩
                                  have k305 := (c_X8_goMend l D cs (w 2) (M.1.2 2) ((p1 / 16) - (p1 / 16) / 30 * 30) hv2 (hasW_t hv2.2.2.1.1 c274))
                                  rw [hG305] at k305
                                  rw [hG305] at hv
                                  refine w_i (G305) (va_runS (As := [.ref (w 2), .int ((p1 / 16) - (p1 / 16) / 30 * 30)]) (rest := []) ⟨hx, hb, hml, hown, hts⟩ k305 (cwS 2 hts (good_S w_ml_X8_272 w_st_X8_goMend w_in_X8 w_co_X8_goMend) rfl rfl rfl ⟨rfl, hd_X8_goMend⟩ ⟨Nat.le_of_ble_eq_true rfl, Nat.le_of_ble_eq_true rfl⟩) (pe_S (hP.sub (ws' := rowW cs (w 2) (M.1.2 2)) [2] rfl) hE) rfl rfl hl.1 rfl (lv_room (Nat.le_of_ble_eq_true rfl)) dX8_stir_305 ⟨Nat.zero_le _, Nat.zero_le _⟩) hS (fun _ _ h => ⟨2, by decide, h⟩) (fun _ h => ⟨2, by decide, h⟩) (fun t locs hB hz hk hS => ?_)
                                  have hP : va_P D vwC (mW cs w (msA M 2 ((G305).2))) t.heap := m_up2 hd hP hk hB
                                  refine join_i (J := 316) (ls := ls) (rest := []) (b2i (if ((G305).1) < 0 then false else true)) ?_ (fun hJ => ?_)
                                  · refine lv_istore (lv' := [(4, .int (b2i (if ((G305).1) < 0 then false else true))), (3, .int ((p1 / 16) - (p1 / 16) / 24 * 24)), (2, .int ((p1 / 16) - (p1 / 16) / 10 * 10)), (0, .ref (w 0)), (1, .int p1)]) hx hb dX8_stir_316 hl (by decide) rfl (fun ls hl => ?_)
                                    refine lv_goto (tgt := 335) hx hb dX8_stir_318 (by decide) ?_
                                    exact W.vret hx hb hr (fun t ht hW => ⟨⟨(msA M 2 ((G305).2)), rfl, hv, pw ht hP⟩, hS.F ht⟩) hS.2.2 dX8_stir_335 (hlocks := hlocks)
                                  · refine lv_if_lt (tgt := 315) hx hb dX8_stir_308 (by decide) (fun c308 => ?_) (fun c308 => ?_)
                                    · refine lv_iconst (v := 0) hx hb dX8_stir_315 (by decide) ?_
                                      exact hJ _ (congrArg b2i ((if_pos c308).trans rfl))
                                    · refine lv_iconst (v := 1) hx hb dX8_stir_311 (by decide) ?_
                                      refine lv_goto (tgt := 316) hx hb dX8_stir_312 (by decide) ?_
                                      exact hJ _ (congrArg b2i ((if_neg c308).trans rfl))
                            · have hv := (if_neg c20_13).symm.trans hv
                              have e0 : (p1 - p1 / 16 * 16).toInt ≠ 0 := sw_ne c20_0
                              have e1 : (p1 - p1 / 16 * 16).toInt ≠ 1 := sw_ne c20_1
                              have e2 : (p1 - p1 / 16 * 16).toInt ≠ 2 := sw_ne c20_2
                              have e3 : (p1 - p1 / 16 * 16).toInt ≠ 3 := sw_ne c20_3
                              have e4 : (p1 - p1 / 16 * 16).toInt ≠ 4 := sw_ne c20_4
                              have e5 : (p1 - p1 / 16 * 16).toInt ≠ 5 := sw_ne c20_5
                              have e6 : (p1 - p1 / 16 * 16).toInt ≠ 6 := sw_ne c20_6
                              have e7 : (p1 - p1 / 16 * 16).toInt ≠ 7 := sw_ne c20_7
                              have e8 : (p1 - p1 / 16 * 16).toInt ≠ 8 := sw_ne c20_8
                              have e9 : (p1 - p1 / 16 * 16).toInt ≠ 9 := sw_ne c20_9
                              have e10 : (p1 - p1 / 16 * 16).toInt ≠ 10 := sw_ne c20_10
                              have e11 : (p1 - p1 / 16 * 16).toInt ≠ 11 := sw_ne c20_11
                              have e12 : (p1 - p1 / 16 * 16).toInt ≠ 12 := sw_ne c20_12
                              have e13 : (p1 - p1 / 16 * 16).toInt ≠ 13 := sw_ne c20_13
                              refine lv_tableOut (tgt := 321) hx hb dX8_stir_20 (by omega) (by decide) ?_
                              refine lv_aload_n hx hb dX8_stir_321 rfl (lv_at hl 2 rfl) ?_
                              refine lv_iconst (v := 1) hx hb dX8_stir_322 (by decide) ?_
                              refine lv_iload_n hx hb dX8_stir_323 rfl (lv_at hl 3 rfl) ?_
                              refine lv_bipush (v := 16) hx hb dX8_stir_324 (by decide) ?_
                              refine lv_idiv hx hb dX8_stir_326 (by decide) ?_
                              refine lv_iconst (v := 5) hx hb dX8_stir_327 (by decide) ?_
                              refine lv_irem hx hb dX8_stir_328 (by decide) ?_
                              refine lv_iadd hx hb dX8_stir_329 ?_
                              obtain ⟨G330, hG330⟩ : ∃ G, sX8_runDays M (1 + ((p1 / 16) - (p1 / 16) / 5 * 5)) = G := ⟨_, rfl⟩
                              have k330 := (c_X8_runDays l D cs w M (1 + ((p1 / 16) - (p1 / 16) / 5 * 5)) hd hv2)
                              rw [hG330] at k330
                              rw [hG330] at hv
                              refine w_b (G330) (va_runV (As := [.int (1 + ((p1 / 16) - (p1 / 16) / 5 * 5))]) (rest := []) ⟨hx, hb, hml, hown, hts⟩ k330 (cwV 1 hts (good_V w_ml_X8_305 w_im_X8_runDays w_se_X8_runDays w_in_X8 w_co_X8_runDays) rfl rfl rfl ⟨rfl, hd_X8_runDays⟩ ⟨Nat.le_of_ble_eq_true rfl, Nat.le_of_ble_eq_true rfl⟩) (pe_W (C := RX8) (T := TX8) (N := 14) (ci := 8) (q0 := 0) hP hE rfl rfl) rfl rfl hl.1 rfl (lv_room (Nat.le_of_ble_eq_true rfl)) dX8_stir_330 ⟨Nat.zero_le _, Nat.zero_le _⟩) hS (fun _ _ h => h) (fun _ h => h) (fun t locs hB hz hk hS => ?_)
                              have hP : va_P D vwC (mW cs w ((G330).2)) t.heap := hB
                              refine lv_istore (lv' := [(4, .int (b2i (G330).1)), (3, .int ((p1 / 16) - (p1 / 16) / 24 * 24)), (2, .int ((p1 / 16) - (p1 / 16) / 10 * 10)), (0, .ref (w 0)), (1, .int p1)]) hx hb dX8_stir_333 hl (by decide) rfl (fun ls hl => ?_)
                              exact W.vret hx hb hr (fun t ht hW => ⟨⟨((G330).2), rfl, hv, pw ht hP⟩, hS.F ht⟩) hS.2.2 dX8_stir_335 (hlocks := hlocks)
theorem TR_stir {M : MS} (p1 : Int32) (hv : MV (M.1.2 2)) : TR M (sX8_stir M p1) := by
  unfold sX8_stir
  refine tr_if (fun c20_0 => ?_) (fun c20_0 => ?_)
  · refine tr_if (fun c100 => ?_) (fun c100 => ?_)
    · refine tr_if (fun c110 => ?_) (fun c110 => ?_)
      · exact TR_row (MV_draw hv (cd_in hv c110) (hasS_t hv.1.1 c100).a)
      · exact TR.rf hv
    · exact TR.rf hv
  · refine tr_if (fun c20_1 => ?_) (fun c20_1 => ?_)
    · refine tr_if (fun c142 => ?_) (fun c142 => ?_)
      · refine tr_if (fun c153 => ?_) (fun c153 => ?_)
        · exact TR_row (MV_revise _ hv (hasS_t hv.1.1 c142))
        · exact TR.rf hv
      · exact TR.rf hv
    · refine tr_if (fun c20_2 => ?_) (fun c20_2 => ?_)
      · refine tr_if (fun c142 => ?_) (fun c142 => ?_)
        · refine tr_if (fun c153 => ?_) (fun c153 => ?_)
          · exact TR_row (MV_revise _ hv (hasS_t hv.1.1 c142))
          · exact TR.rf hv
        · exact TR.rf hv
      · refine tr_if (fun c20_3 => ?_) (fun c20_3 => ?_)
        · exact TR_runCheck _ hv
        · refine tr_if (fun c20_4 => ?_) (fun c20_4 => ?_)
          · exact TR_runPrint _ _ hv
          · refine tr_if (fun c20_5 => ?_) (fun c20_5 => ?_)
            · exact TR_runPrint _ _ hv
            · refine tr_if (fun c20_6 => ?_) (fun c20_6 => ?_)
              · exact TR_runPrint _ _ hv
              · refine tr_if (fun c20_7 => ?_) (fun c20_7 => ?_)
                · exact TR_runStamp _ _ hv
                · refine tr_if (fun c20_8 => ?_) (fun c20_8 => ?_)
                  · exact TR_runStamp _ _ hv
                  · refine tr_if (fun c20_9 => ?_) (fun c20_9 => ?_)
                    · exact TR_runBack _ hv
                    · refine tr_if (fun c20_10 => ?_) (fun c20_10 => ?_)
                      · exact TR_runBuild _ _ hv
                      · refine tr_if (fun c20_11 => ?_) (fun c20_11 => ?_)
                        · exact TR_runBuild _ _ hv
                        · refine tr_if (fun c20_12 => ?_) (fun c20_12 => ?_)
                          · exact TR_runBuild _ _ hv
                          · refine tr_if (fun c20_13 => ?_) (fun c20_13 => ?_)
                            · refine tr_if (fun c274 => ?_) (fun c274 => ?_)
                              · refine tr_if (fun c291 => ?_) (fun c291 => ?_)
                                · exact TR_row (MV_mend hv ((hasW_t hv.2.2.1.1 c274).v hv))
                                · exact TR.rf hv
                              · exact TR.rf hv
                            · exact TR_runDays _ hv
theorem hd_X8_simulate : yX8_simulate.cls ≠ "java/lang/invoke/MethodHandle" ∧ yX8_simulate.cls ≠ "java/lang/invoke/VarHandle" ∧ (parseMethodDescriptor yX8_simulate.desc).map (fun d => d.parameters.length) = some 2 := by decide +kernel
def LX8_simulate_43 (M : MS) (p1 : Int64) (p2 : Int32) : Nat → Int64 → Int32 → MS → Int32 × MS
  | 0 => fun _ _ _ => (0, M)
  | n + 1 => fun x4 x6 O9 => (if p2 ≤ x6 then ((1000 * (sX8_wrong (O9.1.2 2))) + (if 999 ≤ (((O9.1.2 2) (4 : Int32).toNatClampNeg) - ((O9.1.2 1) (4 : Int32).toNatClampNeg)) then (999 : Int32) else ((O9.1.2 2) (4 : Int32).toNatClampNeg) - ((O9.1.2 1) (4 : Int32).toNatClampNeg)), O9) else (LX8_simulate_43 M p1 p2 n ((x4 * (6364136223846793005 : Int64)) + (1442695040888963407 : Int64)) (x6 + 1) ((sX8_stir O9 (((((x4 * (6364136223846793005 : Int64)) + (1442695040888963407 : Int64)).toUInt64 >>> ((33 : Int32).toInt64.toUInt64 &&& Int64.toUInt64 63)).toInt64).toInt32)))))
theorem LX8_simulate_43_eq (M : MS) (p1 : Int64) (p2 : Int32) (n : Nat) (x4 : Int64) (x6 : Int32) (O9 : MS) : LX8_simulate_43 M p1 p2 (n + 1) x4 x6 O9 = (if p2 ≤ x6 then ((1000 * (sX8_wrong (O9.1.2 2))) + (if 999 ≤ (((O9.1.2 2) (4 : Int32).toNatClampNeg) - ((O9.1.2 1) (4 : Int32).toNatClampNeg)) then (999 : Int32) else ((O9.1.2 2) (4 : Int32).toNatClampNeg) - ((O9.1.2 1) (4 : Int32).toNatClampNeg)), O9) else (LX8_simulate_43 M p1 p2 n ((x4 * (6364136223846793005 : Int64)) + (1442695040888963407 : Int64)) (x6 + 1) ((sX8_stir O9 (((((x4 * (6364136223846793005 : Int64)) + (1442695040888963407 : Int64)).toUInt64 >>> ((33 : Int32).toInt64.toUInt64 &&& Int64.toUInt64 63)).toInt64).toInt32))))) := rfl
def sX8_simulate (M : MS) (p1 : Int64) (p2 : Int32) : Int32 × MS := (if (refB (b2i (if (sX8_in p2.toInt64 (1 : Int64) (80 : Int64)) = true then false else true))) = true then (0, (msS M 0 (b2i (if (sX8_in p2.toInt64 (1 : Int64) (80 : Int64)) = true then false else true)))) else (LX8_simulate_43 M p1 p2 (upM p2 0 + 1) p1 0 (msA (msS M 0 (b2i (if (sX8_in p2.toInt64 (1 : Int64) (80 : Int64)) = true then false else true))) 2 ((sX8_copy (M.1.2 2) (M.1.2 1))))))
set_option maxHeartbeats 4000000 in
set_option maxRecDepth 100000 in
theorem c_X8_simulate (l : Launch) (D : va_G) (cs : Nat → ClassId) (w : Nat → Nat) (M : MS) (p1 : Int64) (p2 : Int32) (hd : mD w) (hv0 : MV (M.1.2 1)) : Met l yX8_simulate (wc yX8_simulate cX8_simulate 7 (some .int)) ({ frames := 7, cells := 0, slots := 0, locals := 155 } : Room) (va_Pc [.ref (w 0), .long p1, .int p2] (PE D cs (mW cs w M))) (va_Qi (fun (r9 : Int32) (u : MS) => r9 = (sX8_simulate M p1 p2).1 ∧ u = (sX8_simulate M p1 p2).2) (fun u t => va_P D vwC (mW cs w u) t.heap) (mA w)) 0 0 (mA w) := by
  obtain ⟨v, hv⟩ : ∃ v, sX8_simulate M p1 p2 = v := ⟨_, rfl⟩
  rw [hv]
  refine met_o (lv := [(0, .ref (w 0)), (1, .long p1), (3, .int p2)]) (by decide) (Nat.le_of_ble_eq_true rfl) rfl ?_
  intro p e s m args below meth c ls hx hb hr hml hts hown hlocks hin hP hE hl
  have hown : s.vm.findClass RX8 = some m.cls := hown
  have hK := hE.1
  have hP : va_P D vwC (mW cs w M) s.heap := hP
  have hS : va_S (mA w) s.heap s.heap [] := va_S.rf
  unfold sX8_simulate at hv
  refine lv_aload_n hx hb dX8_simulate_0 rfl (lv_at hl 0 rfl) ?_
  refine lv_iload_n hx hb dX8_simulate_1 rfl (lv_at hl 2 rfl) ?_
  refine lv_i2l hx hb dX8_simulate_2 rfl ?_
  refine lv_lconst (v := 1) hx hb dX8_simulate_3 (by decide) ?_
  refine lv_ldc2 (v := 80) hx hb hown (hts _ w_cn_X8_323) dX8_simulate_4 ?_
  refine ro_i (b2i (sX8_in p2.toInt64 (1 : Int64) (80 : Int64))) (run_c (va_runS (As := [.long p2.toInt64, .long (1 : Int64), .long (80 : Int64)]) (rest := [.ref (w 0)]) ⟨hx, hb, hml, hown, hts⟩ (c_X8_in l D cs p2.toInt64 (1 : Int64) (80 : Int64)) (cwS 3 hts (good_S w_ml_X8_42 w_st_X8_in w_in_X8 w_co_X8_in) rfl rfl rfl ⟨rfl, hd_X8_in⟩ ⟨Nat.le_of_ble_eq_true rfl, Nat.le_of_ble_eq_true rfl⟩) (pe_S (p_nil D _) hE) rfl rfl hl.1 rfl (lv_room (Nat.le_of_ble_eq_true rfl)) dX8_simulate_7 ⟨Nat.zero_le _, Nat.zero_le _⟩)) ?_
  refine join_i (J := 18) (ls := ls) (rest := [.ref (w 0)]) (b2i (if (sX8_in p2.toInt64 (1 : Int64) (80 : Int64)) = true then false else true)) ?_ (fun hJ => ?_)
  · refine w_b (refB (b2i (if (sX8_in p2.toInt64 (1 : Int64) (80 : Int64)) = true then false else true)), (msS M 0 (b2i (if (sX8_in p2.toInt64 (1 : Int64) (80 : Int64)) = true then false else true)))) (va_runV (As := [.int (b2i (if (sX8_in p2.toInt64 (1 : Int64) (80 : Int64)) = true then false else true))]) (rest := []) ⟨hx, hb, hml, hown, hts⟩ (c_X8_refused l D cs w M (b2i (if (sX8_in p2.toInt64 (1 : Int64) (80 : Int64)) = true then false else true)) hd) (cwV 1 hts (good_V w_ml_X8_105 w_im_X8_refused w_se_X8_refused w_in_X8 w_co_X8_refused) rfl rfl rfl ⟨rfl, hd_X8_refused⟩ ⟨Nat.le_of_ble_eq_true rfl, Nat.le_of_ble_eq_true rfl⟩) (pe_W (C := RX8) (T := TX8) (N := 14) (ci := 8) (q0 := 0) hP hE rfl rfl) rfl rfl hl.1 rfl (lv_room (Nat.le_of_ble_eq_true rfl)) dX8_simulate_18 ⟨Nat.zero_le _, Nat.zero_le _⟩) hS (fun _ _ h => h) (fun _ h => h) (fun t locs hB hz hk hS => ?_)
    have hP : va_P D vwC (mW cs w (msS M 0 (b2i (if (sX8_in p2.toInt64 (1 : Int64) (80 : Int64)) = true then false else true)))) t.heap := hB
    refine lv_if_eq (tgt := 26) hx hb dX8_simulate_21 (by decide) (fun c21 => ?_) (fun c21 => ?_)
    · have c21 := b2i_f c21
      have hv := (if_neg c21).symm.trans hv
      refine lv_aload_n hx hb dX8_simulate_26 rfl (lv_at hl 0 rfl) ?_
      refine va_get (D := D) (ci := 8) (v := .ref (w 1)) (C := RX8) (T := TX8) (N := 14) hx hb hts iw_X8 hown hK hP 0 rfl rfl 1 (by decide) (hts _ w_fl_X8_7) (fun _ h9 => h9) rfl dX8_simulate_27 ?_
      refine lv_aload_n hx hb dX8_simulate_30 rfl (lv_at hl 0 rfl) ?_
      refine va_get (D := D) (ci := 8) (v := .ref (w 2)) (C := RX8) (T := TX8) (N := 14) hx hb hts iw_X8 hown hK hP 0 rfl rfl 2 (by decide) (hts _ w_fl_X8_13) (fun _ h9 => h9) rfl dX8_simulate_31 ?_
      obtain ⟨G34, hG34⟩ : ∃ G, sX8_copy (M.1.2 2) (M.1.2 1) = G := ⟨_, rfl⟩
      have k34 := (c_X8_copy l D cs (w 2) (w 1) (M.1.2 2) (M.1.2 1) (fun e9 => absurd (hd 2 1 (by decide) (by decide) e9) (by decide)))
      rw [hG34] at k34
      rw [hG34] at hv
      refine w_v (G34) (va_runS (As := [.ref (w 1), .ref (w 2)]) (rest := []) ⟨hx, hb, hml, hown, hts⟩ k34 (cwS 2 hts (good_S w_ml_X8_208 w_st_X8_copy w_in_X8 w_co_X8_copy) rfl rfl rfl ⟨rfl, hd_X8_copy⟩ ⟨Nat.le_of_ble_eq_true rfl, Nat.le_of_ble_eq_true rfl⟩) (pe_S (hP.sub (ws' := rowW cs (w 2) (M.1.2 2) ++ rowW cs (w 1) (M.1.2 1)) [2, 1] rfl) hE) rfl rfl hl.1 rfl (lv_room (Nat.le_of_ble_eq_true rfl)) dX8_simulate_34 ⟨Nat.zero_le _, Nat.zero_le _⟩) hS (fun _ _ h => h.elim (fun h => ⟨2, by decide, h⟩) (fun h => ⟨1, by decide, h⟩)) (fun _ h => h.elim (fun h => ⟨2, by decide, h⟩) (fun h => ⟨1, by decide, h⟩)) (fun t locs hB hz hk hS => ?_)
      have hP : va_P D vwC (mW cs w (msA (msS M 0 (b2i (if (sX8_in p2.toInt64 (1 : Int64) (80 : Int64)) = true then false else true))) 2 (G34))) t.heap := m_cp21 hd hP hk hB
      refine lv_lload_n hx hb dX8_simulate_37 rfl (lv_at hl 1 rfl) ?_
      refine lv_lstore (lv' := [(4, .long p1), (0, .ref (w 0)), (1, .long p1), (3, .int p2)]) hx hb dX8_simulate_38 hl (by decide) rfl (fun ls hl => ?_)
      refine lv_iconst (v := 0) hx hb dX8_simulate_40 (by decide) ?_
      refine lv_istore (lv' := [(6, .int 0), (4, .long p1), (0, .ref (w 0)), (1, .long p1), (3, .int p2)]) hx hb dX8_simulate_41 hl (by decide) rfl (fun ls hl => ?_)
      have LOOP : ∀ (n : Nat) (x4 : Int64) (x6 : Int32) (O9 : MS), upM p2 x6 < n → (MV (O9.1.2 2)) → LX8_simulate_43 M p1 p2 n x4 x6 O9 = v → ∀ (H : Heap) (locs : List Loc), va_P D vwC (mW cs w O9) H → va_S (mA w) s.heap H locs → ∀ ls : Array Slot, lv_has ls 7 [(0, .ref (w 0)), (1, .long p1), (3, .int p2), (4, .long x4), (6, .int x6)] → W p l e ({ frames := 7, cells := 0, slots := 0, locals := 155 } : Room) s m args below meth c H locs 0 0 (MQ below (va_Qi (fun (r9 : Int32) (u : MS) => r9 = v.1 ∧ u = v.2) (fun u t => va_P D vwC (mW cs w u) t.heap) (mA w)) args s 0 0 (mA w)) (F0 m 43 ls []) := by
        clear hv
        intro n
        induction n with
        | zero => intro x4 x6 O9 hm; exact absurd hm (Nat.not_lt_zero _)
        | succ n ih =>
          intro x4 x6 O9 hm i0 hv H locs hP hS ls hl
          have hv := (LX8_simulate_43_eq M p1 p2 n x4 x6 O9).symm.trans hv
          refine lv_iload hx hb dX8_simulate_43 (lv_at hl 4 rfl) ?_
          refine lv_iload_n hx hb dX8_simulate_45 rfl (lv_at hl 2 rfl) ?_
          refine lv_icmp_ge (tgt := 77) hx hb dX8_simulate_46 (by decide) (fun c46 => ?_) (fun c46 => ?_)
          · have hv := (if_pos c46).symm.trans hv
            refine lv_aload_n hx hb dX8_simulate_77 rfl (lv_at hl 0 rfl) ?_
            refine va_get (D := D) (ci := 8) (v := .ref (w 2)) (C := RX8) (T := TX8) (N := 14) hx hb hts iw_X8 hown hK hP 0 rfl rfl 2 (by decide) (hts _ w_fl_X8_13) (fun _ h9 => h9) rfl dX8_simulate_78 ?_
            refine lv_iconst (v := 4) hx hb dX8_simulate_81 (by decide) ?_
            refine va_iald (cA := cs 0) (n := 414) (f := (O9.1.2 2)) hx hb hK hP 2 0 rfl rfl (by unfold vp_in; decide) dX8_simulate_82 ?_
            refine lv_aload_n hx hb dX8_simulate_83 rfl (lv_at hl 0 rfl) ?_
            refine va_get (D := D) (ci := 8) (v := .ref (w 1)) (C := RX8) (T := TX8) (N := 14) hx hb hts iw_X8 hown hK hP 0 rfl rfl 1 (by decide) (hts _ w_fl_X8_7) (fun _ h9 => h9) rfl dX8_simulate_84 ?_
            refine lv_iconst (v := 4) hx hb dX8_simulate_87 (by decide) ?_
            refine va_iald (cA := cs 0) (n := 414) (f := (O9.1.2 1)) hx hb hK hP 1 0 rfl rfl (by unfold vp_in; decide) dX8_simulate_88 ?_
            refine lv_isub hx hb dX8_simulate_89 ?_
            refine lv_istore (lv' := [(6, .int (((O9.1.2 2) (4 : Int32).toNatClampNeg) - ((O9.1.2 1) (4 : Int32).toNatClampNeg))), (0, .ref (w 0)), (1, .long p1), (3, .int p2), (4, .long x4)]) hx hb dX8_simulate_90 hl (by decide) rfl (fun ls hl => ?_)
            refine lv_sipush (v := 1000) hx hb dX8_simulate_92 (by decide) ?_
            refine lv_aload_n hx hb dX8_simulate_95 rfl (lv_at hl 1 rfl) ?_
            refine va_get (D := D) (ci := 8) (v := .ref (w 2)) (C := RX8) (T := TX8) (N := 14) hx hb hts iw_X8 hown hK hP 0 rfl rfl 2 (by decide) (hts _ w_fl_X8_13) (fun _ h9 => h9) rfl dX8_simulate_96 ?_
            refine ro_i (sX8_wrong (O9.1.2 2)) (run_c (va_runS (As := [.ref (w 2)]) (rest := [.int 1000]) ⟨hx, hb, hml, hown, hts⟩ (c_X8_wrong l D cs (w 2) (O9.1.2 2) i0) (cwS 1 hts (good_S w_ml_X8_90 w_st_X8_wrong w_in_X8 w_co_X8_wrong) rfl rfl rfl ⟨rfl, hd_X8_wrong⟩ ⟨Nat.le_of_ble_eq_true rfl, Nat.le_of_ble_eq_true rfl⟩) (pe_S (hP.sub (ws' := rowW cs (w 2) (O9.1.2 2)) [2] rfl) hE) rfl rfl hl.1 rfl (lv_room (Nat.le_of_ble_eq_true rfl)) dX8_simulate_99 ⟨Nat.zero_le _, Nat.zero_le _⟩)) ?_
            refine lv_imul hx hb dX8_simulate_102 ?_
            refine lv_iload hx hb dX8_simulate_103 (lv_at hl 0 rfl) ?_
            refine lv_sipush (v := 999) hx hb dX8_simulate_105 (by decide) ?_
            refine join_i (J := 119) (ls := ls) (rest := [.int (1000 * (sX8_wrong (O9.1.2 2)))]) ((if 999 ≤ (((O9.1.2 2) (4 : Int32).toNatClampNeg) - ((O9.1.2 1) (4 : Int32).toNatClampNeg)) then (999 : Int32) else ((O9.1.2 2) (4 : Int32).toNatClampNeg) - ((O9.1.2 1) (4 : Int32).toNatClampNeg))) ?_ (fun hJ => ?_)
            · refine lv_iadd hx hb dX8_simulate_119 ?_
              exact W.iret (v := (1000 * (sX8_wrong (O9.1.2 2))) + (if 999 ≤ (((O9.1.2 2) (4 : Int32).toNatClampNeg) - ((O9.1.2 1) (4 : Int32).toNatClampNeg)) then (999 : Int32) else ((O9.1.2 2) (4 : Int32).toNatClampNeg) - ((O9.1.2 1) (4 : Int32).toNatClampNeg))) hx hb hr (fun t ht hW => ⟨⟨(1000 * (sX8_wrong (O9.1.2 2))) + (if 999 ≤ (((O9.1.2 2) (4 : Int32).toNatClampNeg) - ((O9.1.2 1) (4 : Int32).toNatClampNeg)) then (999 : Int32) else ((O9.1.2 2) (4 : Int32).toNatClampNeg) - ((O9.1.2 1) (4 : Int32).toNatClampNeg)), O9, rfl, pair_eq hv, pw ht hP⟩, hS.F ht⟩) hS.2.2 dX8_simulate_120 (hlocks := hlocks)
            · refine lv_icmp_ge (tgt := 116) hx hb dX8_simulate_108 (by decide) (fun c108 => ?_) (fun c108 => ?_)
              · refine lv_sipush (v := 999) hx hb dX8_simulate_116 (by decide) ?_
                exact hJ _ ((if_pos c108).trans rfl)
              · refine lv_iload hx hb dX8_simulate_111 (lv_at hl 0 rfl) ?_
                refine lv_goto (tgt := 119) hx hb dX8_simulate_113 (by decide) ?_
                exact hJ _ ((if_neg c108).trans rfl)
          · have hv := (if_neg c46).symm.trans hv
            refine lv_lload hx hb dX8_simulate_49 (lv_at hl 3 rfl) ?_
            refine lv_ldc2 (v := 6364136223846793005) hx hb hown (hts _ w_cn_X8_325) dX8_simulate_51 ?_
            refine lv_lmul hx hb dX8_simulate_54 ?_
            refine lv_ldc2 (v := 1442695040888963407) hx hb hown (hts _ w_cn_X8_327) dX8_simulate_55 ?_
            refine lv_ladd hx hb dX8_simulate_58 ?_
            refine lv_lstore (lv' := [(4, .long ((x4 * (6364136223846793005 : Int64)) + (1442695040888963407 : Int64))), (0, .ref (w 0)), (1, .long p1), (3, .int p2), (6, .int x6)]) hx hb dX8_simulate_59 hl (by decide) rfl (fun ls hl => ?_)
            refine lv_aload_n hx hb dX8_simulate_61 rfl (lv_at hl 1 rfl) ?_
            refine lv_lload hx hb dX8_simulate_62 (lv_at hl 0 rfl) ?_
            refine lv_bipush (v := 33) hx hb dX8_simulate_64 (by decide) ?_
            refine lv_lushr hx hb dX8_simulate_66 rfl ?_
            refine lv_l2i hx hb dX8_simulate_67 rfl ?_
            obtain ⟨G68, hG68⟩ : ∃ G, sX8_stir O9 (((((x4 * (6364136223846793005 : Int64)) + (1442695040888963407 : Int64)).toUInt64 >>> ((33 : Int32).toInt64.toUInt64 &&& Int64.toUInt64 63)).toInt64).toInt32) = G := ⟨_, rfl⟩
            have k68 := (c_X8_stir l D cs w O9 (((((x4 * (6364136223846793005 : Int64)) + (1442695040888963407 : Int64)).toUInt64 >>> ((33 : Int32).toInt64.toUInt64 &&& Int64.toUInt64 63)).toInt64).toInt32) hd i0)
            rw [hG68] at k68
            rw [hG68] at hv
            refine w_v (G68) (va_runV (As := [.int (((((x4 * (6364136223846793005 : Int64)) + (1442695040888963407 : Int64)).toUInt64 >>> ((33 : Int32).toInt64.toUInt64 &&& Int64.toUInt64 63)).toInt64).toInt32)]) (rest := []) ⟨hx, hb, hml, hown, hts⟩ k68 (cwV 1 hts (good_V w_ml_X8_329 w_im_X8_stir w_se_X8_stir w_in_X8 w_co_X8_stir) rfl rfl rfl ⟨rfl, hd_X8_stir⟩ ⟨Nat.le_of_ble_eq_true rfl, Nat.le_of_ble_eq_true rfl⟩) (pe_W (C := RX8) (T := TX8) (N := 14) (ci := 8) (q0 := 0) hP hE rfl rfl) rfl rfl hl.1 rfl (lv_room (Nat.le_of_ble_eq_true rfl)) dX8_simulate_68 ⟨Nat.zero_le _, Nat.zero_le _⟩) hS (fun _ _ h => h) (fun _ h => h) (fun t locs hB hz hk hS => ?_)
            have hP : va_P D vwC (mW cs w (G68)) t.heap := hB
            refine lv_iinc (v := x6 + 1) (lv' := [(6, .int (x6 + 1)), (4, .long ((x4 * (6364136223846793005 : Int64)) + (1442695040888963407 : Int64))), (0, .ref (w 0)), (1, .long p1), (3, .int p2)]) hx hb dX8_simulate_71 hl (k := 4) rfl rfl (by decide) rfl (fun ls hl => ?_)
            refine lv_goto (tgt := 43) hx hb dX8_simulate_74 (by decide) ?_
            exact ih ((x4 * (6364136223846793005 : Int64)) + (1442695040888963407 : Int64)) (x6 + 1) (G68) (upM_s c46 hm) (by rw [← hG68]; exact (TR_stir _ i0).1) hv _ _ hP hS ls (lv_sub hl [2, 3, 4, 1, 0] rfl)
      exact LOOP _ p1 0 (msA (msS M 0 (b2i (if (sX8_in p2.toInt64 (1 : Int64) (80 : Int64)) = true then false else true))) 2 (G34)) (Nat.lt_succ_self _) (by show MV G34; rw [← hG34]; exact MV_copy hv0) hv _ _ hP hS ls (lv_sub hl [2, 3, 4, 1, 0] rfl)
    · have c21 := b2i_t c21
      have hv := (if_pos c21).symm.trans hv
      refine lv_iconst (v := 0) hx hb dX8_simulate_24 (by decide) ?_
      exact W.iret (v := 0) hx hb hr (fun t ht hW => ⟨⟨0, (msS M 0 (b2i (if (sX8_in p2.toInt64 (1 : Int64) (80 : Int64)) = true then false else true))), rfl, pair_eq hv, pw ht hP⟩, hS.F ht⟩) hS.2.2 dX8_simulate_25 (hlocks := hlocks)
  · refine lv_if_eq (tgt := 17) hx hb dX8_simulate_10 (by decide) (fun c10 => ?_) (fun c10 => ?_)
    · have c10 := b2i_f c10
      refine lv_iconst (v := 1) hx hb dX8_simulate_17 (by decide) ?_
      exact hJ _ (congrArg b2i ((if_neg c10).trans rfl))
    · have c10 := b2i_t c10
      refine lv_iconst (v := 0) hx hb dX8_simulate_13 (by decide) ?_
      refine lv_goto (tgt := 18) hx hb dX8_simulate_14 (by decide) ?_
      exact hJ _ (congrArg b2i ((if_pos c10).trans rfl))
theorem hd_X8_ifRevised : yX8_ifRevised.cls ≠ "java/lang/invoke/MethodHandle" ∧ yX8_ifRevised.cls ≠ "java/lang/invoke/VarHandle" ∧ (parseMethodDescriptor yX8_ifRevised.desc).map (fun d => d.parameters.length) = some 3 := by decide +kernel
def sX8_ifRevised (M : MS) (p1 : Int32) (p2 : Int32) (p3 : Int32) : Int32 × MS := (if (refB (if (sX8_hasSheet (M.1.2 1) p1) = true then (if (sX8_isCloud p2) = true then (if (sX8_in p3.toInt64 (0 : Int64) (3 : Int64)) = true then (if (sX8_canRevise (M.1.2 1) p1) = true then (0 : Int32) else (3 : Int32)) else (2 : Int32)) else (2 : Int32)) else (1 : Int32))) = true then (0, (msS M 0 (if (sX8_hasSheet (M.1.2 1) p1) = true then (if (sX8_isCloud p2) = true then (if (sX8_in p3.toInt64 (0 : Int64) (3 : Int64)) = true then (if (sX8_canRevise (M.1.2 1) p1) = true then (0 : Int32) else (3 : Int32)) else (2 : Int32)) else (2 : Int32)) else (1 : Int32)))) else (if p3 = 0 then (((sX8_goRevise ((sX8_copy (M.1.2 2) (M.1.2 1))) p1 p2)).1, (msA (msA (msS M 0 (if (sX8_hasSheet (M.1.2 1) p1) = true then (if (sX8_isCloud p2) = true then (if (sX8_in p3.toInt64 (0 : Int64) (3 : Int64)) = true then (if (sX8_canRevise (M.1.2 1) p1) = true then (0 : Int32) else (3 : Int32)) else (2 : Int32)) else (2 : Int32)) else (1 : Int32))) 2 ((sX8_copy (M.1.2 2) (M.1.2 1)))) 2 (((sX8_goRevise ((sX8_copy (M.1.2 2) (M.1.2 1))) p1 p2)).2))) else (if p3 = 1 then ((sX8_wrong (((sX8_goRevise ((sX8_copy (M.1.2 2) (M.1.2 1))) p1 p2)).2)) - (sX8_wrong (M.1.2 1)), (msA (msA (msS M 0 (if (sX8_hasSheet (M.1.2 1) p1) = true then (if (sX8_isCloud p2) = true then (if (sX8_in p3.toInt64 (0 : Int64) (3 : Int64)) = true then (if (sX8_canRevise (M.1.2 1) p1) = true then (0 : Int32) else (3 : Int32)) else (2 : Int32)) else (2 : Int32)) else (1 : Int32))) 2 ((sX8_copy (M.1.2 2) (M.1.2 1)))) 2 (((sX8_goRevise ((sX8_copy (M.1.2 2) (M.1.2 1))) p1 p2)).2))) else (if p3 = 2 then (sX8_many (((((sX8_goRevise ((sX8_copy (M.1.2 2) (M.1.2 1))) p1 p2)).2) (8 : Int32).toNatClampNeg) &&& (((M.1.2 1) (8 : Int32).toNatClampNeg) ^^^ (-1))), (msA (msA (msS M 0 (if (sX8_hasSheet (M.1.2 1) p1) = true then (if (sX8_isCloud p2) = true then (if (sX8_in p3.toInt64 (0 : Int64) (3 : Int64)) = true then (if (sX8_canRevise (M.1.2 1) p1) = true then (0 : Int32) else (3 : Int32)) else (2 : Int32)) else (2 : Int32)) else (1 : Int32))) 2 ((sX8_copy (M.1.2 2) (M.1.2 1)))) 2 (((sX8_goRevise ((sX8_copy (M.1.2 2) (M.1.2 1))) p1 p2)).2))) else (sX8_sitesLost (msA (msA (msS M 0 (if (sX8_hasSheet (M.1.2 1) p1) = true then (if (sX8_isCloud p2) = true then (if (sX8_in p3.toInt64 (0 : Int64) (3 : Int64)) = true then (if (sX8_canRevise (M.1.2 1) p1) = true then (0 : Int32) else (3 : Int32)) else (2 : Int32)) else (2 : Int32)) else (1 : Int32))) 2 ((sX8_copy (M.1.2 2) (M.1.2 1)))) 2 (((sX8_goRevise ((sX8_copy (M.1.2 2) (M.1.2 1))) p1 p2)).2)) p1, (msA (msA (msS M 0 (if (sX8_hasSheet (M.1.2 1) p1) = true then (if (sX8_isCloud p2) = true then (if (sX8_in p3.toInt64 (0 : Int64) (3 : Int64)) = true then (if (sX8_canRevise (M.1.2 1) p1) = true then (0 : Int32) else (3 : Int32)) else (2 : Int32)) else (2 : Int32)) else (1 : Int32))) 2 ((sX8_copy (M.1.2 2) (M.1.2 1)))) 2 (((sX8_goRevise ((sX8_copy (M.1.2 2) (M.1.2 1))) p1 p2)).2)))))))
set_option maxHeartbeats 4000000 in
set_option maxRecDepth 100000 in
theorem c_X8_ifRevised (l : Launch) (D : va_G) (cs : Nat → ClassId) (w : Nat → Nat) (M : MS) (p1 : Int32) (p2 : Int32) (p3 : Int32) (hd : mD w) (hv0 : MV (M.1.2 1)) : Met l yX8_ifRevised (wc yX8_ifRevised cX8_ifRevised 5 (some .int)) ({ frames := 5, cells := 0, slots := 0, locals := 110 } : Room) (va_Pc [.ref (w 0), .int p1, .int p2, .int p3] (PE D cs (mW cs w M))) (va_Qi (fun (r9 : Int32) (u : MS) => r9 = (sX8_ifRevised M p1 p2 p3).1 ∧ u = (sX8_ifRevised M p1 p2 p3).2) (fun u t => va_P D vwC (mW cs w u) t.heap) (mA w)) 0 0 (mA w) := by
  obtain ⟨v, hv⟩ : ∃ v, sX8_ifRevised M p1 p2 p3 = v := ⟨_, rfl⟩
  rw [hv]
  refine met_o (lv := [(0, .ref (w 0)), (1, .int p1), (2, .int p2), (3, .int p3)]) (by decide) (Nat.le_of_ble_eq_true rfl) rfl ?_
  intro p e s m args below meth c ls hx hb hr hml hts hown hlocks hin hP hE hl
  have hown : s.vm.findClass RX8 = some m.cls := hown
  have hK := hE.1
  have hP : va_P D vwC (mW cs w M) s.heap := hP
  have hS : va_S (mA w) s.heap s.heap [] := va_S.rf
  unfold sX8_ifRevised at hv
  refine lv_aload_n hx hb dX8_ifRevised_0 rfl (lv_at hl 0 rfl) ?_
  refine lv_aload_n hx hb dX8_ifRevised_1 rfl (lv_at hl 0 rfl) ?_
  refine va_get (D := D) (ci := 8) (v := .ref (w 1)) (C := RX8) (T := TX8) (N := 14) hx hb hts iw_X8 hown hK hP 0 rfl rfl 1 (by decide) (hts _ w_fl_X8_7) (fun _ h9 => h9) rfl dX8_ifRevised_2 ?_
  refine lv_iload_n hx hb dX8_ifRevised_5 rfl (lv_at hl 1 rfl) ?_
  refine ro_i (b2i (sX8_hasSheet (M.1.2 1) p1)) (run_c (va_runS (As := [.ref (w 1), .int p1]) (rest := [.ref (w 0)]) ⟨hx, hb, hml, hown, hts⟩ (c_X8_hasSheet l D cs (w 1) (M.1.2 1) p1) (cwS 2 hts (good_S w_ml_X8_139 w_st_X8_hasSheet w_in_X8 w_co_X8_hasSheet) rfl rfl rfl ⟨rfl, hd_X8_hasSheet⟩ ⟨Nat.le_of_ble_eq_true rfl, Nat.le_of_ble_eq_true rfl⟩) (pe_S (hP.sub (ws' := rowW cs (w 1) (M.1.2 1)) [1] rfl) hE) rfl rfl hl.1 rfl (lv_room (Nat.le_of_ble_eq_true rfl)) dX8_ifRevised_6 ⟨Nat.zero_le _, Nat.zero_le _⟩)) ?_
  refine join_i (J := 55) (ls := ls) (rest := [.ref (w 0)]) ((if (sX8_hasSheet (M.1.2 1) p1) = true then (if (sX8_isCloud p2) = true then (if (sX8_in p3.toInt64 (0 : Int64) (3 : Int64)) = true then (if (sX8_canRevise (M.1.2 1) p1) = true then (0 : Int32) else (3 : Int32)) else (2 : Int32)) else (2 : Int32)) else (1 : Int32))) ?_ (fun hJ => ?_)
  · refine w_b (refB (if (sX8_hasSheet (M.1.2 1) p1) = true then (if (sX8_isCloud p2) = true then (if (sX8_in p3.toInt64 (0 : Int64) (3 : Int64)) = true then (if (sX8_canRevise (M.1.2 1) p1) = true then (0 : Int32) else (3 : Int32)) else (2 : Int32)) else (2 : Int32)) else (1 : Int32)), (msS M 0 (if (sX8_hasSheet (M.1.2 1) p1) = true then (if (sX8_isCloud p2) = true then (if (sX8_in p3.toInt64 (0 : Int64) (3 : Int64)) = true then (if (sX8_canRevise (M.1.2 1) p1) = true then (0 : Int32) else (3 : Int32)) else (2 : Int32)) else (2 : Int32)) else (1 : Int32)))) (va_runV (As := [.int (if (sX8_hasSheet (M.1.2 1) p1) = true then (if (sX8_isCloud p2) = true then (if (sX8_in p3.toInt64 (0 : Int64) (3 : Int64)) = true then (if (sX8_canRevise (M.1.2 1) p1) = true then (0 : Int32) else (3 : Int32)) else (2 : Int32)) else (2 : Int32)) else (1 : Int32))]) (rest := []) ⟨hx, hb, hml, hown, hts⟩ (c_X8_refused l D cs w M (if (sX8_hasSheet (M.1.2 1) p1) = true then (if (sX8_isCloud p2) = true then (if (sX8_in p3.toInt64 (0 : Int64) (3 : Int64)) = true then (if (sX8_canRevise (M.1.2 1) p1) = true then (0 : Int32) else (3 : Int32)) else (2 : Int32)) else (2 : Int32)) else (1 : Int32)) hd) (cwV 1 hts (good_V w_ml_X8_105 w_im_X8_refused w_se_X8_refused w_in_X8 w_co_X8_refused) rfl rfl rfl ⟨rfl, hd_X8_refused⟩ ⟨Nat.le_of_ble_eq_true rfl, Nat.le_of_ble_eq_true rfl⟩) (pe_W (C := RX8) (T := TX8) (N := 14) (ci := 8) (q0 := 0) hP hE rfl rfl) rfl rfl hl.1 rfl (lv_room (Nat.le_of_ble_eq_true rfl)) dX8_ifRevised_55 ⟨Nat.zero_le _, Nat.zero_le _⟩) hS (fun _ _ h => h) (fun _ h => h) (fun t locs hB hz hk hS => ?_)
    have hP : va_P D vwC (mW cs w (msS M 0 (if (sX8_hasSheet (M.1.2 1) p1) = true then (if (sX8_isCloud p2) = true then (if (sX8_in p3.toInt64 (0 : Int64) (3 : Int64)) = true then (if (sX8_canRevise (M.1.2 1) p1) = true then (0 : Int32) else (3 : Int32)) else (2 : Int32)) else (2 : Int32)) else (1 : Int32)))) t.heap := hB
    refine lv_if_eq (tgt := 63) hx hb dX8_ifRevised_58 (by decide) (fun c58 => ?_) (fun c58 => ?_)
    · have c58 := b2i_f c58
      have hv := (if_neg c58).symm.trans hv
      have f1 := ift (by decide) (rf0 c58)
      have f2 := hasS_t hv0.1.1 f1.1
      refine lv_aload_n hx hb dX8_ifRevised_63 rfl (lv_at hl 0 rfl) ?_
      refine va_get (D := D) (ci := 8) (v := .ref (w 1)) (C := RX8) (T := TX8) (N := 14) hx hb hts iw_X8 hown hK hP 0 rfl rfl 1 (by decide) (hts _ w_fl_X8_7) (fun _ h9 => h9) rfl dX8_ifRevised_64 ?_
      refine lv_aload_n hx hb dX8_ifRevised_67 rfl (lv_at hl 0 rfl) ?_
      refine va_get (D := D) (ci := 8) (v := .ref (w 2)) (C := RX8) (T := TX8) (N := 14) hx hb hts iw_X8 hown hK hP 0 rfl rfl 2 (by decide) (hts _ w_fl_X8_13) (fun _ h9 => h9) rfl dX8_ifRevised_68 ?_
      obtain ⟨G71, hG71⟩ : ∃ G, sX8_copy (M.1.2 2) (M.1.2 1) = G := ⟨_, rfl⟩
      have k71 := (c_X8_copy l D cs (w 2) (w 1) (M.1.2 2) (M.1.2 1) (fun e9 => absurd (hd 2 1 (by decide) (by decide) e9) (by decide)))
      rw [hG71] at k71
      rw [hG71] at hv
      refine w_v (G71) (va_runS (As := [.ref (w 1), .ref (w 2)]) (rest := []) ⟨hx, hb, hml, hown, hts⟩ k71 (cwS 2 hts (good_S w_ml_X8_208 w_st_X8_copy w_in_X8 w_co_X8_copy) rfl rfl rfl ⟨rfl, hd_X8_copy⟩ ⟨Nat.le_of_ble_eq_true rfl, Nat.le_of_ble_eq_true rfl⟩) (pe_S (hP.sub (ws' := rowW cs (w 2) (M.1.2 2) ++ rowW cs (w 1) (M.1.2 1)) [2, 1] rfl) hE) rfl rfl hl.1 rfl (lv_room (Nat.le_of_ble_eq_true rfl)) dX8_ifRevised_71 ⟨Nat.zero_le _, Nat.zero_le _⟩) hS (fun _ _ h => h.elim (fun h => ⟨2, by decide, h⟩) (fun h => ⟨1, by decide, h⟩)) (fun _ h => h.elim (fun h => ⟨2, by decide, h⟩) (fun h => ⟨1, by decide, h⟩)) (fun t locs hB hz hk hS => ?_)
      have hP : va_P D vwC (mW cs w (msA (msS M 0 (if (sX8_hasSheet (M.1.2 1) p1) = true then (if (sX8_isCloud p2) = true then (if (sX8_in p3.toInt64 (0 : Int64) (3 : Int64)) = true then (if (sX8_canRevise (M.1.2 1) p1) = true then (0 : Int32) else (3 : Int32)) else (2 : Int32)) else (2 : Int32)) else (1 : Int32))) 2 (G71))) t.heap := m_cp21 hd hP hk hB
      have g71 : MV G71 := by rw [← hG71]; exact MV_copy hv0
      have s71 : inS G71 p1 := by rw [← hG71]; exact inS_copy f2
      refine lv_aload_n hx hb dX8_ifRevised_74 rfl (lv_at hl 0 rfl) ?_
      refine va_get (D := D) (ci := 8) (v := .ref (w 2)) (C := RX8) (T := TX8) (N := 14) hx hb hts iw_X8 hown hK hP 0 rfl rfl 2 (by decide) (hts _ w_fl_X8_13) (fun _ h9 => h9) rfl dX8_ifRevised_75 ?_
      refine lv_iload_n hx hb dX8_ifRevised_78 rfl (lv_at hl 1 rfl) ?_
      refine lv_iload_n hx hb dX8_ifRevised_79 rfl (lv_at hl 2 rfl) ?_
      obtain ⟨G80, hG80⟩ : ∃ G, sX8_goRevise (G71) p1 p2 = G := ⟨_, rfl⟩
      have k80 := (c_X8_goRevise l D cs (w 2) (G71) p1 p2 g71 s71)
      rw [hG80] at k80
      rw [hG80] at hv
      refine w_i (G80) (va_runS (As := [.ref (w 2), .int p1, .int p2]) (rest := []) ⟨hx, hb, hml, hown, hts⟩ k80 (cwS 3 hts (good_S w_ml_X8_165 w_st_X8_goRevise w_in_X8 w_co_X8_goRevise) rfl rfl rfl ⟨rfl, hd_X8_goRevise⟩ ⟨Nat.le_of_ble_eq_true rfl, Nat.le_of_ble_eq_true rfl⟩) (pe_S (hP.sub (ws' := rowW cs (w 2) (G71)) [2] rfl) hE) rfl rfl hl.1 rfl (lv_room (Nat.le_of_ble_eq_true rfl)) dX8_ifRevised_80 ⟨Nat.zero_le _, Nat.zero_le _⟩) hS (fun _ _ h => ⟨2, by decide, h⟩) (fun _ h => ⟨2, by decide, h⟩) (fun t locs hB hz hk hS => ?_)
      have hP : va_P D vwC (mW cs w (msA (msA (msS M 0 (if (sX8_hasSheet (M.1.2 1) p1) = true then (if (sX8_isCloud p2) = true then (if (sX8_in p3.toInt64 (0 : Int64) (3 : Int64)) = true then (if (sX8_canRevise (M.1.2 1) p1) = true then (0 : Int32) else (3 : Int32)) else (2 : Int32)) else (2 : Int32)) else (1 : Int32))) 2 (G71)) 2 ((G80).2))) t.heap := m_up2 hd hP hk hB
      have g80 : MV G80.2 := by rw [← hG80]; exact MV_revise p2 g71 s71
      refine lv_istore (lv' := [(4, .int ((G80).1)), (0, .ref (w 0)), (1, .int p1), (2, .int p2), (3, .int p3)]) hx hb dX8_ifRevised_83 hl (by decide) rfl (fun ls hl => ?_)
      refine lv_iload_n hx hb dX8_ifRevised_85 rfl (lv_at hl 4 rfl) ?_
      by_cases c86_0 : p3 = 0
      · have hv := (if_pos c86_0).symm.trans hv
        refine lv_tableIn (off := 26) (tgt := 112) hx hb dX8_ifRevised_86 (by rw [c86_0]; decide) (by rw [c86_0]; decide) (by rw [c86_0]; rfl) (by decide) ?_
        refine lv_iload hx hb dX8_ifRevised_112 (lv_at hl 0 rfl) ?_
        exact W.iret (v := (G80).1) hx hb hr (fun t ht hW => ⟨⟨(G80).1, (msA (msA (msS M 0 (if (sX8_hasSheet (M.1.2 1) p1) = true then (if (sX8_isCloud p2) = true then (if (sX8_in p3.toInt64 (0 : Int64) (3 : Int64)) = true then (if (sX8_canRevise (M.1.2 1) p1) = true then (0 : Int32) else (3 : Int32)) else (2 : Int32)) else (2 : Int32)) else (1 : Int32))) 2 (G71)) 2 ((G80).2)), rfl, pair_eq hv, pw ht hP⟩, hS.F ht⟩) hS.2.2 dX8_ifRevised_114 (hlocks := hlocks)
      · have hv := (if_neg c86_0).symm.trans hv
        by_cases c86_1 : p3 = 1
        · have hv := (if_pos c86_1).symm.trans hv
          refine lv_tableIn (off := 29) (tgt := 115) hx hb dX8_ifRevised_86 (by rw [c86_1]; decide) (by rw [c86_1]; decide) (by rw [c86_1]; rfl) (by decide) ?_
          refine lv_aload_n hx hb dX8_ifRevised_115 rfl (lv_at hl 1 rfl) ?_
          refine va_get (D := D) (ci := 8) (v := .ref (w 2)) (C := RX8) (T := TX8) (N := 14) hx hb hts iw_X8 hown hK hP 0 rfl rfl 2 (by decide) (hts _ w_fl_X8_13) (fun _ h9 => h9) rfl dX8_ifRevised_116 ?_
          refine ro_i (sX8_wrong ((G80).2)) (run_c (va_runS (As := [.ref (w 2)]) (rest := []) ⟨hx, hb, hml, hown, hts⟩ (c_X8_wrong l D cs (w 2) ((G80).2) g80) (cwS 1 hts (good_S w_ml_X8_90 w_st_X8_wrong w_in_X8 w_co_X8_wrong) rfl rfl rfl ⟨rfl, hd_X8_wrong⟩ ⟨Nat.le_of_ble_eq_true rfl, Nat.le_of_ble_eq_true rfl⟩) (pe_S (hP.sub (ws' := rowW cs (w 2) ((G80).2)) [2] rfl) hE) rfl rfl hl.1 rfl (lv_room (Nat.le_of_ble_eq_true rfl)) dX8_ifRevised_119 ⟨Nat.zero_le _, Nat.zero_le _⟩)) ?_
          refine lv_aload_n hx hb dX8_ifRevised_122 rfl (lv_at hl 1 rfl) ?_
          refine va_get (D := D) (ci := 8) (v := .ref (w 1)) (C := RX8) (T := TX8) (N := 14) hx hb hts iw_X8 hown hK hP 0 rfl rfl 1 (by decide) (hts _ w_fl_X8_7) (fun _ h9 => h9) rfl dX8_ifRevised_123 ?_
          refine ro_i (sX8_wrong (M.1.2 1)) (run_c (va_runS (As := [.ref (w 1)]) (rest := [.int (sX8_wrong ((G80).2))]) ⟨hx, hb, hml, hown, hts⟩ (c_X8_wrong l D cs (w 1) (M.1.2 1) hv0) (cwS 1 hts (good_S w_ml_X8_90 w_st_X8_wrong w_in_X8 w_co_X8_wrong) rfl rfl rfl ⟨rfl, hd_X8_wrong⟩ ⟨Nat.le_of_ble_eq_true rfl, Nat.le_of_ble_eq_true rfl⟩) (pe_S (hP.sub (ws' := rowW cs (w 1) (M.1.2 1)) [1] rfl) hE) rfl rfl hl.1 rfl (lv_room (Nat.le_of_ble_eq_true rfl)) dX8_ifRevised_126 ⟨Nat.zero_le _, Nat.zero_le _⟩)) ?_
          refine lv_isub hx hb dX8_ifRevised_129 ?_
          exact W.iret (v := (sX8_wrong ((G80).2)) - (sX8_wrong (M.1.2 1))) hx hb hr (fun t ht hW => ⟨⟨(sX8_wrong ((G80).2)) - (sX8_wrong (M.1.2 1)), (msA (msA (msS M 0 (if (sX8_hasSheet (M.1.2 1) p1) = true then (if (sX8_isCloud p2) = true then (if (sX8_in p3.toInt64 (0 : Int64) (3 : Int64)) = true then (if (sX8_canRevise (M.1.2 1) p1) = true then (0 : Int32) else (3 : Int32)) else (2 : Int32)) else (2 : Int32)) else (1 : Int32))) 2 (G71)) 2 ((G80).2)), rfl, pair_eq hv, pw ht hP⟩, hS.F ht⟩) hS.2.2 dX8_ifRevised_130 (hlocks := hlocks)
        · have hv := (if_neg c86_1).symm.trans hv
          by_cases c86_2 : p3 = 2
          · have hv := (if_pos c86_2).symm.trans hv
            refine lv_tableIn (off := 45) (tgt := 131) hx hb dX8_ifRevised_86 (by rw [c86_2]; decide) (by rw [c86_2]; decide) (by rw [c86_2]; rfl) (by decide) ?_
            refine lv_aload_n hx hb dX8_ifRevised_131 rfl (lv_at hl 1 rfl) ?_
            refine va_get (D := D) (ci := 8) (v := .ref (w 2)) (C := RX8) (T := TX8) (N := 14) hx hb hts iw_X8 hown hK hP 0 rfl rfl 2 (by decide) (hts _ w_fl_X8_13) (fun _ h9 => h9) rfl dX8_ifRevised_132 ?_
            refine lv_bipush (v := 8) hx hb dX8_ifRevised_135 (by decide) ?_
            refine va_iald (cA := cs 0) (n := 414) (f := (G80).2) hx hb hK hP 2 0 rfl rfl (by unfold vp_in; decide) dX8_ifRevised_137 ?_
            refine lv_aload_n hx hb dX8_ifRevised_138 rfl (lv_at hl 1 rfl) ?_
            refine va_get (D := D) (ci := 8) (v := .ref (w 1)) (C := RX8) (T := TX8) (N := 14) hx hb hts iw_X8 hown hK hP 0 rfl rfl 1 (by decide) (hts _ w_fl_X8_7) (fun _ h9 => h9) rfl dX8_ifRevised_139 ?_
            refine lv_bipush (v := 8) hx hb dX8_ifRevised_142 (by decide) ?_
            refine va_iald (cA := cs 0) (n := 414) (f := (M.1.2 1)) hx hb hK hP 1 0 rfl rfl (by unfold vp_in; decide) dX8_ifRevised_144 ?_
            refine lv_iconst (v := (-1)) hx hb dX8_ifRevised_145 (by decide) ?_
            refine lv_ixor hx hb dX8_ifRevised_146 ?_
            refine lv_iand hx hb dX8_ifRevised_147 ?_
            refine ro_i (sX8_many ((((G80).2) (8 : Int32).toNatClampNeg) &&& (((M.1.2 1) (8 : Int32).toNatClampNeg) ^^^ (-1)))) (run_c (va_runS (As := [.int ((((G80).2) (8 : Int32).toNatClampNeg) &&& (((M.1.2 1) (8 : Int32).toNatClampNeg) ^^^ (-1)))]) (rest := []) ⟨hx, hb, hml, hown, hts⟩ (c_X8_many l D cs ((((G80).2) (8 : Int32).toNatClampNeg) &&& (((M.1.2 1) (8 : Int32).toNatClampNeg) ^^^ (-1)))) (cwS 1 hts (good_S w_ml_X8_77 w_st_X8_many w_in_X8 w_co_X8_many) rfl rfl rfl ⟨rfl, hd_X8_many⟩ ⟨Nat.le_of_ble_eq_true rfl, Nat.le_of_ble_eq_true rfl⟩) (pe_S (p_nil D _) hE) rfl rfl hl.1 rfl (lv_room (Nat.le_of_ble_eq_true rfl)) dX8_ifRevised_148 ⟨Nat.zero_le _, Nat.zero_le _⟩)) ?_
            exact W.iret (v := sX8_many ((((G80).2) (8 : Int32).toNatClampNeg) &&& (((M.1.2 1) (8 : Int32).toNatClampNeg) ^^^ (-1)))) hx hb hr (fun t ht hW => ⟨⟨sX8_many ((((G80).2) (8 : Int32).toNatClampNeg) &&& (((M.1.2 1) (8 : Int32).toNatClampNeg) ^^^ (-1))), (msA (msA (msS M 0 (if (sX8_hasSheet (M.1.2 1) p1) = true then (if (sX8_isCloud p2) = true then (if (sX8_in p3.toInt64 (0 : Int64) (3 : Int64)) = true then (if (sX8_canRevise (M.1.2 1) p1) = true then (0 : Int32) else (3 : Int32)) else (2 : Int32)) else (2 : Int32)) else (1 : Int32))) 2 (G71)) 2 ((G80).2)), rfl, pair_eq hv, pw ht hP⟩, hS.F ht⟩) hS.2.2 dX8_ifRevised_151 (hlocks := hlocks)
          · have hv := (if_neg c86_2).symm.trans hv
            have e0 : p3.toInt ≠ 0 := sw_ne c86_0
            have e1 : p3.toInt ≠ 1 := sw_ne c86_1
            have e2 : p3.toInt ≠ 2 := sw_ne c86_2
            refine lv_tableOut (tgt := 152) hx hb dX8_ifRevised_86 (by omega) (by decide) ?_
            refine lv_aload_n hx hb dX8_ifRevised_152 rfl (lv_at hl 1 rfl) ?_
            refine lv_iload_n hx hb dX8_ifRevised_153 rfl (lv_at hl 2 rfl) ?_
            refine ro_i (sX8_sitesLost (msA (msA (msS M 0 (if (sX8_hasSheet (M.1.2 1) p1) = true then (if (sX8_isCloud p2) = true then (if (sX8_in p3.toInt64 (0 : Int64) (3 : Int64)) = true then (if (sX8_canRevise (M.1.2 1) p1) = true then (0 : Int32) else (3 : Int32)) else (2 : Int32)) else (2 : Int32)) else (1 : Int32))) 2 (G71)) 2 ((G80).2)) p1) (run_c (va_runV (As := [.int p1]) (rest := []) ⟨hx, hb, hml, hown, hts⟩ (c_X8_sitesLost l D cs w (msA (msA (msS M 0 (if (sX8_hasSheet (M.1.2 1) p1) = true then (if (sX8_isCloud p2) = true then (if (sX8_in p3.toInt64 (0 : Int64) (3 : Int64)) = true then (if (sX8_canRevise (M.1.2 1) p1) = true then (0 : Int32) else (3 : Int32)) else (2 : Int32)) else (2 : Int32)) else (1 : Int32))) 2 (G71)) 2 ((G80).2)) p1 hv0 g80) (cwV 1 hts (good_V w_ml_X8_283 w_im_X8_sitesLost w_se_X8_sitesLost w_in_X8 w_co_X8_sitesLost) rfl rfl rfl ⟨rfl, hd_X8_sitesLost⟩ ⟨Nat.le_of_ble_eq_true rfl, Nat.le_of_ble_eq_true rfl⟩) (pe_W (C := RX8) (T := TX8) (N := 14) (ci := 8) (q0 := 0) hP hE rfl rfl) rfl rfl hl.1 rfl (lv_room (Nat.le_of_ble_eq_true rfl)) dX8_ifRevised_154 ⟨Nat.zero_le _, Nat.zero_le _⟩)) ?_
            exact W.iret (v := sX8_sitesLost (msA (msA (msS M 0 (if (sX8_hasSheet (M.1.2 1) p1) = true then (if (sX8_isCloud p2) = true then (if (sX8_in p3.toInt64 (0 : Int64) (3 : Int64)) = true then (if (sX8_canRevise (M.1.2 1) p1) = true then (0 : Int32) else (3 : Int32)) else (2 : Int32)) else (2 : Int32)) else (1 : Int32))) 2 (G71)) 2 ((G80).2)) p1) hx hb hr (fun t ht hW => ⟨⟨sX8_sitesLost (msA (msA (msS M 0 (if (sX8_hasSheet (M.1.2 1) p1) = true then (if (sX8_isCloud p2) = true then (if (sX8_in p3.toInt64 (0 : Int64) (3 : Int64)) = true then (if (sX8_canRevise (M.1.2 1) p1) = true then (0 : Int32) else (3 : Int32)) else (2 : Int32)) else (2 : Int32)) else (1 : Int32))) 2 (G71)) 2 ((G80).2)) p1, (msA (msA (msS M 0 (if (sX8_hasSheet (M.1.2 1) p1) = true then (if (sX8_isCloud p2) = true then (if (sX8_in p3.toInt64 (0 : Int64) (3 : Int64)) = true then (if (sX8_canRevise (M.1.2 1) p1) = true then (0 : Int32) else (3 : Int32)) else (2 : Int32)) else (2 : Int32)) else (1 : Int32))) 2 (G71)) 2 ((G80).2)), rfl, pair_eq hv, pw ht hP⟩, hS.F ht⟩) hS.2.2 dX8_ifRevised_157 (hlocks := hlocks)
    · have c58 := b2i_t c58
      have hv := (if_pos c58).symm.trans hv
      refine lv_iconst (v := 0) hx hb dX8_ifRevised_61 (by decide) ?_
      exact W.iret (v := 0) hx hb hr (fun t ht hW => ⟨⟨0, (msS M 0 (if (sX8_hasSheet (M.1.2 1) p1) = true then (if (sX8_isCloud p2) = true then (if (sX8_in p3.toInt64 (0 : Int64) (3 : Int64)) = true then (if (sX8_canRevise (M.1.2 1) p1) = true then (0 : Int32) else (3 : Int32)) else (2 : Int32)) else (2 : Int32)) else (1 : Int32))), rfl, pair_eq hv, pw ht hP⟩, hS.F ht⟩) hS.2.2 dX8_ifRevised_62 (hlocks := hlocks)
  · refine lv_if_ne (tgt := 16) hx hb dX8_ifRevised_9 (by decide) (fun c9 => ?_) (fun c9 => ?_)
    · have c9 := b2i_t c9
      refine lv_iload_n hx hb dX8_ifRevised_16 rfl (lv_at hl 2 rfl) ?_
      refine ro_i (b2i (sX8_isCloud p2)) (run_c (va_runS (As := [.int p2]) (rest := [.ref (w 0)]) ⟨hx, hb, hml, hown, hts⟩ (c_X8_isCloud l D cs p2) (cwS 1 hts (good_S w_ml_X8_251 w_st_X8_isCloud w_in_X8 w_co_X8_isCloud) rfl rfl rfl ⟨rfl, hd_X8_isCloud⟩ ⟨Nat.le_of_ble_eq_true rfl, Nat.le_of_ble_eq_true rfl⟩) (pe_S (p_nil D _) hE) rfl rfl hl.1 rfl (lv_room (Nat.le_of_ble_eq_true rfl)) dX8_ifRevised_17 ⟨Nat.zero_le _, Nat.zero_le _⟩)) ?_
      refine lv_if_eq (tgt := 35) hx hb dX8_ifRevised_20 (by decide) (fun c20 => ?_) (fun c20 => ?_)
      · have c20 := b2i_f c20
        refine lv_iconst (v := 2) hx hb dX8_ifRevised_35 (by decide) ?_
        refine lv_goto (tgt := 55) hx hb dX8_ifRevised_36 (by decide) ?_
        exact hJ _ ((if_pos c9).trans ((if_neg c20).trans rfl))
      · have c20 := b2i_t c20
        refine lv_iload_n hx hb dX8_ifRevised_23 rfl (lv_at hl 3 rfl) ?_
        refine lv_i2l hx hb dX8_ifRevised_24 rfl ?_
        refine lv_lconst (v := 0) hx hb dX8_ifRevised_25 (by decide) ?_
        refine lv_ldc2 (v := 3) hx hb hown (hts _ w_cn_X8_48) dX8_ifRevised_26 ?_
        refine ro_i (b2i (sX8_in p3.toInt64 (0 : Int64) (3 : Int64))) (run_c (va_runS (As := [.long p3.toInt64, .long (0 : Int64), .long (3 : Int64)]) (rest := [.ref (w 0)]) ⟨hx, hb, hml, hown, hts⟩ (c_X8_in l D cs p3.toInt64 (0 : Int64) (3 : Int64)) (cwS 3 hts (good_S w_ml_X8_42 w_st_X8_in w_in_X8 w_co_X8_in) rfl rfl rfl ⟨rfl, hd_X8_in⟩ ⟨Nat.le_of_ble_eq_true rfl, Nat.le_of_ble_eq_true rfl⟩) (pe_S (p_nil D _) hE) rfl rfl hl.1 rfl (lv_room (Nat.le_of_ble_eq_true rfl)) dX8_ifRevised_29 ⟨Nat.zero_le _, Nat.zero_le _⟩)) ?_
        refine lv_if_ne (tgt := 39) hx hb dX8_ifRevised_32 (by decide) (fun c32 => ?_) (fun c32 => ?_)
        · have c32 := b2i_t c32
          refine lv_aload_n hx hb dX8_ifRevised_39 rfl (lv_at hl 0 rfl) ?_
          refine va_get (D := D) (ci := 8) (v := .ref (w 1)) (C := RX8) (T := TX8) (N := 14) hx hb hts iw_X8 hown hK hP 0 rfl rfl 1 (by decide) (hts _ w_fl_X8_7) (fun _ h9 => h9) rfl dX8_ifRevised_40 ?_
          refine lv_iload_n hx hb dX8_ifRevised_43 rfl (lv_at hl 1 rfl) ?_
          refine ro_i (b2i (sX8_canRevise (M.1.2 1) p1)) (run_c (va_runS (As := [.ref (w 1), .int p1]) (rest := [.ref (w 0)]) ⟨hx, hb, hml, hown, hts⟩ (c_X8_canRevise l D cs (w 1) (M.1.2 1) p1 ((hasS_t hv0.1.1 c9).v hv0)) (cwS 2 hts (good_S w_ml_X8_162 w_st_X8_canRevise w_in_X8 w_co_X8_canRevise) rfl rfl rfl ⟨rfl, hd_X8_canRevise⟩ ⟨Nat.le_of_ble_eq_true rfl, Nat.le_of_ble_eq_true rfl⟩) (pe_S (hP.sub (ws' := rowW cs (w 1) (M.1.2 1)) [1] rfl) hE) rfl rfl hl.1 rfl (lv_room (Nat.le_of_ble_eq_true rfl)) dX8_ifRevised_44 ⟨Nat.zero_le _, Nat.zero_le _⟩)) ?_
          refine lv_if_ne (tgt := 54) hx hb dX8_ifRevised_47 (by decide) (fun c47 => ?_) (fun c47 => ?_)
          · have c47 := b2i_t c47
            refine lv_iconst (v := 0) hx hb dX8_ifRevised_54 (by decide) ?_
            exact hJ _ ((if_pos c9).trans ((if_pos c20).trans ((if_pos c32).trans ((if_pos c47).trans rfl))))
          · have c47 := b2i_f c47
            refine lv_iconst (v := 3) hx hb dX8_ifRevised_50 (by decide) ?_
            refine lv_goto (tgt := 55) hx hb dX8_ifRevised_51 (by decide) ?_
            exact hJ _ ((if_pos c9).trans ((if_pos c20).trans ((if_pos c32).trans ((if_neg c47).trans rfl))))
        · have c32 := b2i_f c32
          refine lv_iconst (v := 2) hx hb dX8_ifRevised_35 (by decide) ?_
          refine lv_goto (tgt := 55) hx hb dX8_ifRevised_36 (by decide) ?_
          exact hJ _ ((if_pos c9).trans ((if_pos c20).trans ((if_neg c32).trans rfl)))
    · have c9 := b2i_f c9
      refine lv_iconst (v := 1) hx hb dX8_ifRevised_12 (by decide) ?_
      refine lv_goto (tgt := 55) hx hb dX8_ifRevised_13 (by decide) ?_
      exact hJ _ ((if_neg c9).trans rfl)
