theorem hd_L_about : yL_about.cls ≠ "java/lang/invoke/MethodHandle" ∧ yL_about.cls ≠ "java/lang/invoke/VarHandle" ∧ (parseMethodDescriptor yL_about.desc).map (fun d => d.parameters.length) = some 3 := by decide +kernel
theorem w_co_L_about : (.codeWith yL_about cL_about 4 (some .int) [(0, 9, 12, 13)] : Cond) ∈ GL := gl (tb3 (List.mem_of_getElem? (i := 196) (by decide +kernel))) (by decide +kernel)
def sL_about (Os : Nat → OF) (T : OF) (g : Nat → Int64) (p1 : Int32) : Int32 × TSt × (Nat → Int64) := wr [1] ((sX7_about Os T p1).1, (sX7_about Os T p1).2, (Os, T)) g
set_option maxHeartbeats 4000000 in
set_option maxRecDepth 100000 in
theorem c_L_about (l : Launch) (D : va_G) (cs : Nat → ClassId) (z : Nat → Nat) (A : Nat → Nat → Nat) (adK adV : Nat → Nat) (oo : Nat) (Os : Nat → OF) (T : OF) (g : Nat → Int64) (p1 : Int32) (hd : tD z A) (ho : ¬ tA z A oo) (hlst : l.stackTraces = false)  (hc : (sX7_about Os T p1).1 = 0 ∨ (sX7_about Os T p1).1 = 1) : Met l yL_about (.codeWith yL_about cL_about 4 (some .int) [(0, 9, 12, 13)] :: GL) ({ frames := 7, cells := 1, slots := 6, locals := 151 } : Room) (va_Pc [.ref (z 0), .int p1, .ref oo] (LWE D cs z A adK adV oo Os T g)) (va_Qi (fun (r9 : Int32) (u : TSt × (Nat → Int64)) => r9 = (sL_about Os T g p1).1 ∧ u = (sL_about Os T g p1).2) (fun u t => tsP D cs z A u.1.1 u.1.2 t.heap ∧ va_P D vwC (oW cs oo u.2) t.heap) (wAd z A oo)) 1 6 (wAd z A oo) := by
  refine met_h (lv := [(0, .ref (z 0)), (1, .int p1), (2, .ref oo)]) (by decide) (Nat.le_of_ble_eq_true rfl) rfl ?_
  intro p e s m args below meth c ls hx hb hr hml hts hown hlocks htab hB0 hl
  obtain ⟨⟨⟨⟨hT, hE⟩, hXE⟩, hO⟩, hN⟩ := hB0
  have hown : s.vm.findClass RL = some m.cls := hown
  have hK := hE.1
  unfold sL_about
  refine lv_aload_n hx hb dL_about_0 rfl (lv_at hl 2 rfl) ?_
  refine lv_iconst (v := 0) hx hb dL_about_1 (by decide) ?_
  refine lv_aload_n hx hb dL_about_2 rfl (lv_at hl 0 rfl) ?_
  refine lv_iload_n hx hb dL_about_3 rfl (lv_at hl 1 rfl) ?_
  obtain ⟨v, hv⟩ : ∃ v, (sX7_about Os T p1) = v := ⟨_, rfl⟩
  have k0 := c_X7_about l D cs z A adK adV Os T p1 hd hlst
  rw [hv] at k0 hc ⊢
  refine x_r v (vx_runV (As := [.int p1]) (rest := [.int 0, .ref oo]) ⟨hx, hb, hml, hown, hts⟩ k0 (cwV 1 hts (good_V w_ml_L_21 w_im_X7_about w_se_X7_about w_in_X7 w_co_X7_about) rfl rfl rfl ⟨rfl, hd_X7_about⟩ ⟨Nat.le_of_ble_eq_true rfl, Nat.le_of_ble_eq_true rfl⟩) (te_V (C := RX7) (T9 := TX7) (N := 5) (ci := 7) (q0 := 0) hT hE hXE va_S.rf rfl rfl) rfl rfl hl.1 rfl (lv_room (Nat.le_of_ble_eq_true rfl)) dL_about_4 ⟨Nat.le_of_ble_eq_true rfl, Nat.le_of_ble_eq_true rfl⟩) (va_S.rf : va_S (wAd z A oo) s.heap s.heap []) (fun _ _ h => Or.inl h) (fun _ h => Or.inl h) (fun c0 ce q9 t locs hT hz hk hS e1 e2 e3 => ?_) (fun c0 t locs hT hz hk hS => ?_)
  · have hO : va_P D vwC (oW cs oo g) t.heap := p_keep hO (fun i q hq => by match i, hq with | 0, hq => (cases hq; exact ho) | i + 1, hq => simp [oW] at hq) hk
    rcases hc with hc | hc
    · exact absurd hc c0
    · refine vx_catch (own := RL) (name := "java/lang/IllegalArgumentException") (E := "java/lang/IllegalArgumentException") hown [] ⟨0, 9, 12, 13⟩ [] htab (fun x h => absurd h List.not_mem_nil) (by decide) (by decide) (hts _ w_cl_L_13) (va_Nw.use rfl (hXE.2.1 _ x_mem1)) e1 e2 (wcl e3 hc rfl) ?_
      refine lv_astore_n (lv' := [(3, .ref q9), (0, .ref (z 0)), (1, .int p1), (2, .ref oo)]) hx hb dL_about_12 rfl hl (by decide) rfl (fun ls hl => ?_)
      refine lv_iconst (v := 1) hx hb dL_about_13 (by decide) ?_
      exact W.iret (v := 1) hx hb hr (fun t ht hW => ⟨⟨1, ((Os, T), g), rfl, by rw [wr_1 (v := (v.1, v.2, (Os, T))) c0 hc]; exact ⟨rfl, rfl⟩, by rw [ht]; exact hT, pw ht hO⟩, hS.F ht⟩) hS.2.2 dL_about_14 (hlocks := hlocks)
  · have hO : va_P D vwC (oW cs oo g) t.heap := p_keep hO (fun i q hq => by match i, hq with | 0, hq => (cases hq; exact ho) | i + 1, hq => simp [oW] at hq) hk
    refine lv_i2l hx hb dL_about_7 rfl ?_
    refine va_last (D := D) (ws := oW cs oo g ++ (zW cs z A T ++ alW cs A Os 19)) hx hb hK (hO.app (ts_all hT)) (o_D cs g Os T hd ho) hS 0 4 rfl rfl (by unfold vp_in; decide) dL_about_8 (fun H locs hP _ hS => ?_)
    have hP : va_P D vwC (oW cs oo (vp_updL g (0 : Int32).toNatClampNeg v.2.toInt64) ++ (zW cs z A T ++ alW cs A Os 19)) H := hP
    have hT := ts_of_all (p_r hP)
    refine lv_goto (tgt := 15) hx hb dL_about_9 (by decide) ?_
    refine lv_iconst (v := 0) hx hb dL_about_15 (by decide) ?_
    exact W.iret (v := 0) hx hb hr (fun t ht hW => ⟨⟨0, ((Os, T), _), rfl, by rw [wr_0 (v := (v.1, v.2, (Os, T))) c0]; exact ⟨rfl, rfl⟩, by rw [ht]; exact hT, pw ht (p_l hP)⟩, hS.F ht⟩) hS.2.2 dL_about_16 (hlocks := hlocks)
theorem hd_L_append : yL_append.cls ≠ "java/lang/invoke/MethodHandle" ∧ yL_append.cls ≠ "java/lang/invoke/VarHandle" ∧ (parseMethodDescriptor yL_append.desc).map (fun d => d.parameters.length) = some 3 := by decide +kernel
theorem w_co_L_append : (.codeWith yL_append cL_append 4 (some .int) [(0, 9, 12, 13), (0, 9, 15, 15)] : Cond) ∈ GL := gl (tb2 (List.mem_of_getElem? (i := 196) (by decide +kernel))) (by decide +kernel)
def sL_append (Os : Nat → OF) (T : OF) (g : Nat → Int64) (p1 : Int32) : Int32 × TSt × (Nat → Int64) := wr [1, 2] (sX7_append Os T p1) g
set_option maxHeartbeats 4000000 in
set_option maxRecDepth 100000 in
theorem c_L_append (l : Launch) (D : va_G) (cs : Nat → ClassId) (z : Nat → Nat) (A : Nat → Nat → Nat) (adK adV : Nat → Nat) (oo : Nat) (Os : Nat → OF) (T : OF) (g : Nat → Int64) (p1 : Int32) (hd : tD z A) (ho : ¬ tA z A oo) (hlst : l.stackTraces = false)  (hc : (sX7_append Os T p1).1 = 0 ∨ (sX7_append Os T p1).1 = 1 ∨ (sX7_append Os T p1).1 = 2) : Met l yL_append (.codeWith yL_append cL_append 4 (some .int) [(0, 9, 12, 13), (0, 9, 15, 15)] :: GL) ({ frames := 7, cells := 1, slots := 6, locals := 103 } : Room) (va_Pc [.ref (z 0), .int p1, .ref oo] (LWE D cs z A adK adV oo Os T g)) (va_Qi (fun (r9 : Int32) (u : TSt × (Nat → Int64)) => r9 = (sL_append Os T g p1).1 ∧ u = (sL_append Os T g p1).2) (fun u t => tsP D cs z A u.1.1 u.1.2 t.heap ∧ va_P D vwC (oW cs oo u.2) t.heap) (wAd z A oo)) 1 6 (wAd z A oo) := by
  refine met_h (lv := [(0, .ref (z 0)), (1, .int p1), (2, .ref oo)]) (by decide) (Nat.le_of_ble_eq_true rfl) rfl ?_
  intro p e s m args below meth c ls hx hb hr hml hts hown hlocks htab hB0 hl
  obtain ⟨⟨⟨⟨hT, hE⟩, hXE⟩, hO⟩, hN⟩ := hB0
  have hown : s.vm.findClass RL = some m.cls := hown
  have hK := hE.1
  unfold sL_append
  refine lv_aload_n hx hb dL_append_0 rfl (lv_at hl 2 rfl) ?_
  refine lv_iconst (v := 0) hx hb dL_append_1 (by decide) ?_
  refine lv_aload_n hx hb dL_append_2 rfl (lv_at hl 0 rfl) ?_
  refine lv_iload_n hx hb dL_append_3 rfl (lv_at hl 1 rfl) ?_
  obtain ⟨v, hv⟩ : ∃ v, (sX7_append Os T p1) = v := ⟨_, rfl⟩
  have k0 := c_X7_append l D cs z A adK adV Os T p1 hd hlst
  rw [hv] at k0 hc ⊢
  refine x_w v (vx_runV (As := [.int p1]) (rest := [.int 0, .ref oo]) ⟨hx, hb, hml, hown, hts⟩ k0 (cwV 1 hts (good_V w_ml_L_7 w_im_X7_append w_se_X7_append w_in_X7 w_co_X7_append) rfl rfl rfl ⟨rfl, hd_X7_append⟩ ⟨Nat.le_of_ble_eq_true rfl, Nat.le_of_ble_eq_true rfl⟩) (te_V (C := RX7) (T9 := TX7) (N := 5) (ci := 7) (q0 := 0) hT hE hXE va_S.rf rfl rfl) rfl rfl hl.1 rfl (lv_room (Nat.le_of_ble_eq_true rfl)) dL_append_4 ⟨Nat.le_of_ble_eq_true rfl, Nat.le_of_ble_eq_true rfl⟩) (va_S.rf : va_S (wAd z A oo) s.heap s.heap []) (fun _ _ h => Or.inl h) (fun _ h => Or.inl h) (fun c0 ce q9 t locs hT hz hk hS e1 e2 e3 => ?_) (fun c0 t locs hT hz hk hS => ?_)
  · have hO : va_P D vwC (oW cs oo g) t.heap := p_keep hO (fun i q hq => by match i, hq with | 0, hq => (cases hq; exact ho) | i + 1, hq => simp [oW] at hq) hk
    rcases hc with hc | hc | hc
    · exact absurd hc c0
    · refine vx_catch (own := RL) (name := "java/lang/IllegalArgumentException") (E := "java/lang/IllegalArgumentException") hown [] ⟨0, 9, 12, 13⟩ [⟨0, 9, 15, 15⟩] htab (fun x h => absurd h List.not_mem_nil) (by decide) (by decide) (hts _ w_cl_L_13) (va_Nw.use rfl (hXE.2.1 _ x_mem1)) e1 e2 (wcl e3 hc rfl) ?_
      refine lv_astore_n (lv' := [(3, .ref q9), (0, .ref (z 0)), (1, .int p1), (2, .ref oo)]) hx hb dL_append_12 rfl hl (by decide) rfl (fun ls hl => ?_)
      refine lv_iconst (v := 1) hx hb dL_append_13 (by decide) ?_
      exact W.iret (v := 1) hx hb hr (fun t ht hW => ⟨⟨1, (v.2.2, g), rfl, by rw [wr_1 (v := v) c0 hc]; exact ⟨rfl, rfl⟩, by rw [ht]; exact hT, pw ht hO⟩, hS.F ht⟩) hS.2.2 dL_append_14 (hlocks := hlocks)
    · refine vx_catch (own := RL) (name := "java/lang/IllegalStateException") (E := "java/lang/IllegalStateException") hown [⟨0, 9, 12, 13⟩] ⟨0, 9, 15, 15⟩ [] htab (fun x hx9 => by simp only [List.mem_cons, List.not_mem_nil, or_false] at hx9; subst hx9; exact Or.inr ⟨by decide, "java/lang/IllegalArgumentException", hts _ w_cl_L_13, hN.1⟩) (by decide) (by decide) (hts _ w_cl_L_15) (va_Nw.use rfl (hXE.2.1 _ x_mem2)) e1 e2 (wcl e3 hc rfl) ?_
      refine lv_astore_n (lv' := [(3, .ref q9), (0, .ref (z 0)), (1, .int p1), (2, .ref oo)]) hx hb dL_append_15 rfl hl (by decide) rfl (fun ls hl => ?_)
      refine lv_iconst (v := 2) hx hb dL_append_16 (by decide) ?_
      exact W.iret (v := 2) hx hb hr (fun t ht hW => ⟨⟨2, (v.2.2, g), rfl, by rw [wr_1 (v := v) c0 hc]; exact ⟨rfl, rfl⟩, by rw [ht]; exact hT, pw ht hO⟩, hS.F ht⟩) hS.2.2 dL_append_17 (hlocks := hlocks)
  · have hO : va_P D vwC (oW cs oo g) t.heap := p_keep hO (fun i q hq => by match i, hq with | 0, hq => (cases hq; exact ho) | i + 1, hq => simp [oW] at hq) hk
    refine lv_i2l hx hb dL_append_7 rfl ?_
    refine va_last (D := D) (ws := oW cs oo g ++ (zW cs z A v.2.2.2 ++ alW cs A v.2.2.1 19)) hx hb hK (hO.app (ts_all hT)) (o_D cs g v.2.2.1 v.2.2.2 hd ho) hS 0 4 rfl rfl (by unfold vp_in; decide) dL_append_8 (fun H locs hP _ hS => ?_)
    have hP : va_P D vwC (oW cs oo (vp_updL g (0 : Int32).toNatClampNeg v.2.1.toInt64) ++ (zW cs z A v.2.2.2 ++ alW cs A v.2.2.1 19)) H := hP
    have hT := ts_of_all (p_r hP)
    refine lv_goto (tgt := 18) hx hb dL_append_9 (by decide) ?_
    refine lv_iconst (v := 0) hx hb dL_append_18 (by decide) ?_
    exact W.iret (v := 0) hx hb hr (fun t ht hW => ⟨⟨0, (v.2.2, _), rfl, by rw [wr_0 (v := v) c0]; exact ⟨rfl, rfl⟩, by rw [ht]; exact hT, pw ht (p_l hP)⟩, hS.F ht⟩) hS.2.2 dL_append_19 (hlocks := hlocks)
theorem hd_L_back : yL_back.cls ≠ "java/lang/invoke/MethodHandle" ∧ yL_back.cls ≠ "java/lang/invoke/VarHandle" ∧ (parseMethodDescriptor yL_back.desc).map (fun d => d.parameters.length) = some 3 := by decide +kernel
theorem w_co_L_back : (.codeWith yL_back cL_back 4 (some .int) [(0, 9, 12, 28), (0, 9, 15, 15)] : Cond) ∈ GL := gl (tb4 (List.mem_of_getElem? (i := 207) (by decide +kernel))) (by decide +kernel)
def sL_back (Os : Nat → OF) (T : OF) (g : Nat → Int64) (p1 : Int32) : Int32 × TSt × (Nat → Int64) := wr [3, 2] (sX7_back Os T p1) g
set_option maxHeartbeats 4000000 in
set_option maxRecDepth 100000 in
theorem c_L_back (l : Launch) (D : va_G) (cs : Nat → ClassId) (z : Nat → Nat) (A : Nat → Nat → Nat) (adK adV : Nat → Nat) (oo : Nat) (Os : Nat → OF) (T : OF) (g : Nat → Int64) (p1 : Int32) (hd : tD z A) (ho : ¬ tA z A oo) (hlst : l.stackTraces = false) (hn : vp_in (T.1 4) 15) (hc : (sX7_back Os T p1).1 = 0 ∨ (sX7_back Os T p1).1 = 3 ∨ (sX7_back Os T p1).1 = 2) : Met l yL_back (.codeWith yL_back cL_back 4 (some .int) [(0, 9, 12, 28), (0, 9, 15, 15)] :: GL) ({ frames := 8, cells := 1, slots := 6, locals := 153 } : Room) (va_Pc [.ref (z 0), .int p1, .ref oo] (LWE D cs z A adK adV oo Os T g)) (va_Qi (fun (r9 : Int32) (u : TSt × (Nat → Int64)) => r9 = (sL_back Os T g p1).1 ∧ u = (sL_back Os T g p1).2) (fun u t => tsP D cs z A u.1.1 u.1.2 t.heap ∧ va_P D vwC (oW cs oo u.2) t.heap) (wAd z A oo)) 1 6 (wAd z A oo) := by
  refine met_h (lv := [(0, .ref (z 0)), (1, .int p1), (2, .ref oo)]) (by decide) (Nat.le_of_ble_eq_true rfl) rfl ?_
  intro p e s m args below meth c ls hx hb hr hml hts hown hlocks htab hB0 hl
  obtain ⟨⟨⟨⟨hT, hE⟩, hXE⟩, hO⟩, hN⟩ := hB0
  have hown : s.vm.findClass RL = some m.cls := hown
  have hK := hE.1
  unfold sL_back
  refine lv_aload_n hx hb dL_back_0 rfl (lv_at hl 2 rfl) ?_
  refine lv_iconst (v := 0) hx hb dL_back_1 (by decide) ?_
  refine lv_aload_n hx hb dL_back_2 rfl (lv_at hl 0 rfl) ?_
  refine lv_iload_n hx hb dL_back_3 rfl (lv_at hl 1 rfl) ?_
  obtain ⟨v, hv⟩ : ∃ v, (sX7_back Os T p1) = v := ⟨_, rfl⟩
  have k0 := c_X7_back l D cs z A adK adV Os T p1 hd hlst hn
  rw [hv] at k0 hc ⊢
  refine x_w v (vx_runV (As := [.int p1]) (rest := [.int 0, .ref oo]) ⟨hx, hb, hml, hown, hts⟩ k0 (cwV 1 hts (good_V w_ml_L_60 w_im_X7_back w_se_X7_back w_in_X7 w_co_X7_back) rfl rfl rfl ⟨rfl, hd_X7_back⟩ ⟨Nat.le_of_ble_eq_true rfl, Nat.le_of_ble_eq_true rfl⟩) (te_V (C := RX7) (T9 := TX7) (N := 5) (ci := 7) (q0 := 0) hT hE hXE va_S.rf rfl rfl) rfl rfl hl.1 rfl (lv_room (Nat.le_of_ble_eq_true rfl)) dL_back_4 ⟨Nat.le_of_ble_eq_true rfl, Nat.le_of_ble_eq_true rfl⟩) (va_S.rf : va_S (wAd z A oo) s.heap s.heap []) (fun _ _ h => Or.inl h) (fun _ h => Or.inl h) (fun c0 ce q9 t locs hT hz hk hS e1 e2 e3 => ?_) (fun c0 t locs hT hz hk hS => ?_)
  · have hO : va_P D vwC (oW cs oo g) t.heap := p_keep hO (fun i q hq => by match i, hq with | 0, hq => (cases hq; exact ho) | i + 1, hq => simp [oW] at hq) hk
    rcases hc with hc | hc | hc
    · exact absurd hc c0
    · refine vx_catch (own := RL) (name := "java/lang/IndexOutOfBoundsException") (E := "java/lang/IndexOutOfBoundsException") hown [] ⟨0, 9, 12, 28⟩ [⟨0, 9, 15, 15⟩] htab (fun x h => absurd h List.not_mem_nil) (by decide) (by decide) (hts _ w_cl_L_28) (va_Nw.use rfl (hXE.2.1 _ x_mem3)) e1 e2 (wcl e3 hc rfl) ?_
      refine lv_astore_n (lv' := [(3, .ref q9), (0, .ref (z 0)), (1, .int p1), (2, .ref oo)]) hx hb dL_back_12 rfl hl (by decide) rfl (fun ls hl => ?_)
      refine lv_iconst (v := 1) hx hb dL_back_13 (by decide) ?_
      exact W.iret (v := 1) hx hb hr (fun t ht hW => ⟨⟨1, (v.2.2, g), rfl, by rw [wr_1 (v := v) c0 hc]; exact ⟨rfl, rfl⟩, by rw [ht]; exact hT, pw ht hO⟩, hS.F ht⟩) hS.2.2 dL_back_14 (hlocks := hlocks)
    · refine vx_catch (own := RL) (name := "java/lang/IllegalStateException") (E := "java/lang/IllegalStateException") hown [⟨0, 9, 12, 28⟩] ⟨0, 9, 15, 15⟩ [] htab (fun x hx9 => by simp only [List.mem_cons, List.not_mem_nil, or_false] at hx9; subst hx9; exact Or.inr ⟨by decide, "java/lang/IndexOutOfBoundsException", hts _ w_cl_L_28, hN.2.2⟩) (by decide) (by decide) (hts _ w_cl_L_15) (va_Nw.use rfl (hXE.2.1 _ x_mem2)) e1 e2 (wcl e3 hc rfl) ?_
      refine lv_astore_n (lv' := [(3, .ref q9), (0, .ref (z 0)), (1, .int p1), (2, .ref oo)]) hx hb dL_back_15 rfl hl (by decide) rfl (fun ls hl => ?_)
      refine lv_iconst (v := 2) hx hb dL_back_16 (by decide) ?_
      exact W.iret (v := 2) hx hb hr (fun t ht hW => ⟨⟨2, (v.2.2, g), rfl, by rw [wr_1 (v := v) c0 hc]; exact ⟨rfl, rfl⟩, by rw [ht]; exact hT, pw ht hO⟩, hS.F ht⟩) hS.2.2 dL_back_17 (hlocks := hlocks)
  · have hO : va_P D vwC (oW cs oo g) t.heap := p_keep hO (fun i q hq => by match i, hq with | 0, hq => (cases hq; exact ho) | i + 1, hq => simp [oW] at hq) hk
    refine lv_i2l hx hb dL_back_7 rfl ?_
    refine va_last (D := D) (ws := oW cs oo g ++ (zW cs z A v.2.2.2 ++ alW cs A v.2.2.1 19)) hx hb hK (hO.app (ts_all hT)) (o_D cs g v.2.2.1 v.2.2.2 hd ho) hS 0 4 rfl rfl (by unfold vp_in; decide) dL_back_8 (fun H locs hP _ hS => ?_)
    have hP : va_P D vwC (oW cs oo (vp_updL g (0 : Int32).toNatClampNeg v.2.1.toInt64) ++ (zW cs z A v.2.2.2 ++ alW cs A v.2.2.1 19)) H := hP
    have hT := ts_of_all (p_r hP)
    refine lv_goto (tgt := 18) hx hb dL_back_9 (by decide) ?_
    refine lv_iconst (v := 0) hx hb dL_back_18 (by decide) ?_
    exact W.iret (v := 0) hx hb hr (fun t ht hW => ⟨⟨0, (v.2.2, _), rfl, by rw [wr_0 (v := v) c0]; exact ⟨rfl, rfl⟩, by rw [ht]; exact hT, pw ht (p_l hP)⟩, hS.F ht⟩) hS.2.2 dL_back_19 (hlocks := hlocks)
theorem hd_L_build : yL_build.cls ≠ "java/lang/invoke/MethodHandle" ∧ yL_build.cls ≠ "java/lang/invoke/VarHandle" ∧ (parseMethodDescriptor yL_build.desc).map (fun d => d.parameters.length) = some 4 := by decide +kernel
theorem w_co_L_build : (.codeWith yL_build cL_build 5 (some .int) [(0, 10, 13, 28), (0, 10, 17, 15)] : Cond) ∈ GL := gl (tb4 (List.mem_of_getElem? (i := 222) (by decide +kernel))) (by decide +kernel)
def sL_build (Os : Nat → OF) (T : OF) (g : Nat → Int64) (p1 : Int32) (p2 : Int32) : Int32 × TSt × (Nat → Int64) := wr [3, 2] (sX7_build Os T p1 p2) g
set_option maxHeartbeats 4000000 in
set_option maxRecDepth 100000 in
theorem c_L_build (l : Launch) (D : va_G) (cs : Nat → ClassId) (z : Nat → Nat) (A : Nat → Nat → Nat) (adK adV : Nat → Nat) (oo : Nat) (Os : Nat → OF) (T : OF) (g : Nat → Int64) (p1 : Int32) (p2 : Int32) (hd : tD z A) (ho : ¬ tA z A oo) (hlst : l.stackTraces = false) (hn : vp_in (T.1 4) 15) (hc : (sX7_build Os T p1 p2).1 = 0 ∨ (sX7_build Os T p1 p2).1 = 3 ∨ (sX7_build Os T p1 p2).1 = 2) : Met l yL_build (.codeWith yL_build cL_build 5 (some .int) [(0, 10, 13, 28), (0, 10, 17, 15)] :: GL) ({ frames := 8, cells := 1, slots := 6, locals := 154 } : Room) (va_Pc [.ref (z 0), .int p1, .int p2, .ref oo] (LWE D cs z A adK adV oo Os T g)) (va_Qi (fun (r9 : Int32) (u : TSt × (Nat → Int64)) => r9 = (sL_build Os T g p1 p2).1 ∧ u = (sL_build Os T g p1 p2).2) (fun u t => tsP D cs z A u.1.1 u.1.2 t.heap ∧ va_P D vwC (oW cs oo u.2) t.heap) (wAd z A oo)) 1 6 (wAd z A oo) := by
  refine met_h (lv := [(0, .ref (z 0)), (1, .int p1), (2, .int p2), (3, .ref oo)]) (by decide) (Nat.le_of_ble_eq_true rfl) rfl ?_
  intro p e s m args below meth c ls hx hb hr hml hts hown hlocks htab hB0 hl
  obtain ⟨⟨⟨⟨hT, hE⟩, hXE⟩, hO⟩, hN⟩ := hB0
  have hown : s.vm.findClass RL = some m.cls := hown
  have hK := hE.1
  unfold sL_build
  refine lv_aload_n hx hb dL_build_0 rfl (lv_at hl 3 rfl) ?_
  refine lv_iconst (v := 0) hx hb dL_build_1 (by decide) ?_
  refine lv_aload_n hx hb dL_build_2 rfl (lv_at hl 0 rfl) ?_
  refine lv_iload_n hx hb dL_build_3 rfl (lv_at hl 1 rfl) ?_
  refine lv_iload_n hx hb dL_build_4 rfl (lv_at hl 2 rfl) ?_
  obtain ⟨v, hv⟩ : ∃ v, (sX7_build Os T p1 p2) = v := ⟨_, rfl⟩
  have k0 := c_X7_build l D cs z A adK adV Os T p1 p2 hd hlst hn
  rw [hv] at k0 hc ⊢
  refine x_w v (vx_runV (As := [.int p1, .int p2]) (rest := [.int 0, .ref oo]) ⟨hx, hb, hml, hown, hts⟩ k0 (cwV 2 hts (good_V w_ml_L_63 w_im_X7_build w_se_X7_build w_in_X7 w_co_X7_build) rfl rfl rfl ⟨rfl, hd_X7_build⟩ ⟨Nat.le_of_ble_eq_true rfl, Nat.le_of_ble_eq_true rfl⟩) (te_V (C := RX7) (T9 := TX7) (N := 5) (ci := 7) (q0 := 0) hT hE hXE va_S.rf rfl rfl) rfl rfl hl.1 rfl (lv_room (Nat.le_of_ble_eq_true rfl)) dL_build_5 ⟨Nat.le_of_ble_eq_true rfl, Nat.le_of_ble_eq_true rfl⟩) (va_S.rf : va_S (wAd z A oo) s.heap s.heap []) (fun _ _ h => Or.inl h) (fun _ h => Or.inl h) (fun c0 ce q9 t locs hT hz hk hS e1 e2 e3 => ?_) (fun c0 t locs hT hz hk hS => ?_)
  · have hO : va_P D vwC (oW cs oo g) t.heap := p_keep hO (fun i q hq => by match i, hq with | 0, hq => (cases hq; exact ho) | i + 1, hq => simp [oW] at hq) hk
    rcases hc with hc | hc | hc
    · exact absurd hc c0
    · refine vx_catch (own := RL) (name := "java/lang/IndexOutOfBoundsException") (E := "java/lang/IndexOutOfBoundsException") hown [] ⟨0, 10, 13, 28⟩ [⟨0, 10, 17, 15⟩] htab (fun x h => absurd h List.not_mem_nil) (by decide) (by decide) (hts _ w_cl_L_28) (va_Nw.use rfl (hXE.2.1 _ x_mem3)) e1 e2 (wcl e3 hc rfl) ?_
      refine lv_astore (lv' := [(4, .ref q9), (0, .ref (z 0)), (1, .int p1), (2, .int p2), (3, .ref oo)]) hx hb dL_build_13 hl (by decide) rfl (fun ls hl => ?_)
      refine lv_iconst (v := 1) hx hb dL_build_15 (by decide) ?_
      exact W.iret (v := 1) hx hb hr (fun t ht hW => ⟨⟨1, (v.2.2, g), rfl, by rw [wr_1 (v := v) c0 hc]; exact ⟨rfl, rfl⟩, by rw [ht]; exact hT, pw ht hO⟩, hS.F ht⟩) hS.2.2 dL_build_16 (hlocks := hlocks)
    · refine vx_catch (own := RL) (name := "java/lang/IllegalStateException") (E := "java/lang/IllegalStateException") hown [⟨0, 10, 13, 28⟩] ⟨0, 10, 17, 15⟩ [] htab (fun x hx9 => by simp only [List.mem_cons, List.not_mem_nil, or_false] at hx9; subst hx9; exact Or.inr ⟨by decide, "java/lang/IndexOutOfBoundsException", hts _ w_cl_L_28, hN.2.2⟩) (by decide) (by decide) (hts _ w_cl_L_15) (va_Nw.use rfl (hXE.2.1 _ x_mem2)) e1 e2 (wcl e3 hc rfl) ?_
      refine lv_astore (lv' := [(4, .ref q9), (0, .ref (z 0)), (1, .int p1), (2, .int p2), (3, .ref oo)]) hx hb dL_build_17 hl (by decide) rfl (fun ls hl => ?_)
      refine lv_iconst (v := 2) hx hb dL_build_19 (by decide) ?_
      exact W.iret (v := 2) hx hb hr (fun t ht hW => ⟨⟨2, (v.2.2, g), rfl, by rw [wr_1 (v := v) c0 hc]; exact ⟨rfl, rfl⟩, by rw [ht]; exact hT, pw ht hO⟩, hS.F ht⟩) hS.2.2 dL_build_20 (hlocks := hlocks)
  · have hO : va_P D vwC (oW cs oo g) t.heap := p_keep hO (fun i q hq => by match i, hq with | 0, hq => (cases hq; exact ho) | i + 1, hq => simp [oW] at hq) hk
    refine lv_i2l hx hb dL_build_8 rfl ?_
    refine va_last (D := D) (ws := oW cs oo g ++ (zW cs z A v.2.2.2 ++ alW cs A v.2.2.1 19)) hx hb hK (hO.app (ts_all hT)) (o_D cs g v.2.2.1 v.2.2.2 hd ho) hS 0 4 rfl rfl (by unfold vp_in; decide) dL_build_9 (fun H locs hP _ hS => ?_)
    have hP : va_P D vwC (oW cs oo (vp_updL g (0 : Int32).toNatClampNeg v.2.1.toInt64) ++ (zW cs z A v.2.2.2 ++ alW cs A v.2.2.1 19)) H := hP
    have hT := ts_of_all (p_r hP)
    refine lv_goto (tgt := 21) hx hb dL_build_10 (by decide) ?_
    refine lv_iconst (v := 0) hx hb dL_build_21 (by decide) ?_
    exact W.iret (v := 0) hx hb hr (fun t ht hW => ⟨⟨0, (v.2.2, _), rfl, by rw [wr_0 (v := v) c0]; exact ⟨rfl, rfl⟩, by rw [ht]; exact hT, pw ht (p_l hP)⟩, hS.F ht⟩) hS.2.2 dL_build_22 (hlocks := hlocks)
theorem hd_L_check : yL_check.cls ≠ "java/lang/invoke/MethodHandle" ∧ yL_check.cls ≠ "java/lang/invoke/VarHandle" ∧ (parseMethodDescriptor yL_check.desc).map (fun d => d.parameters.length) = some 3 := by decide +kernel
theorem w_co_L_check : (.codeWith yL_check cL_check 4 (some .int) [(0, 9, 12, 28), (0, 9, 15, 15)] : Cond) ∈ GL := gl (tb4 (List.mem_of_getElem? (i := 181) (by decide +kernel))) (by decide +kernel)
def sL_check (Os : Nat → OF) (T : OF) (g : Nat → Int64) (p1 : Int32) : Int32 × TSt × (Nat → Int64) := wr [3, 2] (sX7_check Os T p1) g
set_option maxHeartbeats 4000000 in
set_option maxRecDepth 100000 in
theorem c_L_check (l : Launch) (D : va_G) (cs : Nat → ClassId) (z : Nat → Nat) (A : Nat → Nat → Nat) (adK adV : Nat → Nat) (oo : Nat) (Os : Nat → OF) (T : OF) (g : Nat → Int64) (p1 : Int32) (hd : tD z A) (ho : ¬ tA z A oo) (hlst : l.stackTraces = false) (hn : vp_in (T.1 4) 15) (hc : (sX7_check Os T p1).1 = 0 ∨ (sX7_check Os T p1).1 = 3 ∨ (sX7_check Os T p1).1 = 2) : Met l yL_check (.codeWith yL_check cL_check 4 (some .int) [(0, 9, 12, 28), (0, 9, 15, 15)] :: GL) ({ frames := 8, cells := 1, slots := 6, locals := 153 } : Room) (va_Pc [.ref (z 0), .int p1, .ref oo] (LWE D cs z A adK adV oo Os T g)) (va_Qi (fun (r9 : Int32) (u : TSt × (Nat → Int64)) => r9 = (sL_check Os T g p1).1 ∧ u = (sL_check Os T g p1).2) (fun u t => tsP D cs z A u.1.1 u.1.2 t.heap ∧ va_P D vwC (oW cs oo u.2) t.heap) (wAd z A oo)) 1 6 (wAd z A oo) := by
  refine met_h (lv := [(0, .ref (z 0)), (1, .int p1), (2, .ref oo)]) (by decide) (Nat.le_of_ble_eq_true rfl) rfl ?_
  intro p e s m args below meth c ls hx hb hr hml hts hown hlocks htab hB0 hl
  obtain ⟨⟨⟨⟨hT, hE⟩, hXE⟩, hO⟩, hN⟩ := hB0
  have hown : s.vm.findClass RL = some m.cls := hown
  have hK := hE.1
  unfold sL_check
  refine lv_aload_n hx hb dL_check_0 rfl (lv_at hl 2 rfl) ?_
  refine lv_iconst (v := 0) hx hb dL_check_1 (by decide) ?_
  refine lv_aload_n hx hb dL_check_2 rfl (lv_at hl 0 rfl) ?_
  refine lv_iload_n hx hb dL_check_3 rfl (lv_at hl 1 rfl) ?_
  obtain ⟨v, hv⟩ : ∃ v, (sX7_check Os T p1) = v := ⟨_, rfl⟩
  have k0 := c_X7_check l D cs z A adK adV Os T p1 hd hlst hn
  rw [hv] at k0 hc ⊢
  refine x_w v (vx_runV (As := [.int p1]) (rest := [.int 0, .ref oo]) ⟨hx, hb, hml, hown, hts⟩ k0 (cwV 1 hts (good_V w_ml_L_51 w_im_X7_check w_se_X7_check w_in_X7 w_co_X7_check) rfl rfl rfl ⟨rfl, hd_X7_check⟩ ⟨Nat.le_of_ble_eq_true rfl, Nat.le_of_ble_eq_true rfl⟩) (te_V (C := RX7) (T9 := TX7) (N := 5) (ci := 7) (q0 := 0) hT hE hXE va_S.rf rfl rfl) rfl rfl hl.1 rfl (lv_room (Nat.le_of_ble_eq_true rfl)) dL_check_4 ⟨Nat.le_of_ble_eq_true rfl, Nat.le_of_ble_eq_true rfl⟩) (va_S.rf : va_S (wAd z A oo) s.heap s.heap []) (fun _ _ h => Or.inl h) (fun _ h => Or.inl h) (fun c0 ce q9 t locs hT hz hk hS e1 e2 e3 => ?_) (fun c0 t locs hT hz hk hS => ?_)
  · have hO : va_P D vwC (oW cs oo g) t.heap := p_keep hO (fun i q hq => by match i, hq with | 0, hq => (cases hq; exact ho) | i + 1, hq => simp [oW] at hq) hk
    rcases hc with hc | hc | hc
    · exact absurd hc c0
    · refine vx_catch (own := RL) (name := "java/lang/IndexOutOfBoundsException") (E := "java/lang/IndexOutOfBoundsException") hown [] ⟨0, 9, 12, 28⟩ [⟨0, 9, 15, 15⟩] htab (fun x h => absurd h List.not_mem_nil) (by decide) (by decide) (hts _ w_cl_L_28) (va_Nw.use rfl (hXE.2.1 _ x_mem3)) e1 e2 (wcl e3 hc rfl) ?_
      refine lv_astore_n (lv' := [(3, .ref q9), (0, .ref (z 0)), (1, .int p1), (2, .ref oo)]) hx hb dL_check_12 rfl hl (by decide) rfl (fun ls hl => ?_)
      refine lv_iconst (v := 1) hx hb dL_check_13 (by decide) ?_
      exact W.iret (v := 1) hx hb hr (fun t ht hW => ⟨⟨1, (v.2.2, g), rfl, by rw [wr_1 (v := v) c0 hc]; exact ⟨rfl, rfl⟩, by rw [ht]; exact hT, pw ht hO⟩, hS.F ht⟩) hS.2.2 dL_check_14 (hlocks := hlocks)
    · refine vx_catch (own := RL) (name := "java/lang/IllegalStateException") (E := "java/lang/IllegalStateException") hown [⟨0, 9, 12, 28⟩] ⟨0, 9, 15, 15⟩ [] htab (fun x hx9 => by simp only [List.mem_cons, List.not_mem_nil, or_false] at hx9; subst hx9; exact Or.inr ⟨by decide, "java/lang/IndexOutOfBoundsException", hts _ w_cl_L_28, hN.2.2⟩) (by decide) (by decide) (hts _ w_cl_L_15) (va_Nw.use rfl (hXE.2.1 _ x_mem2)) e1 e2 (wcl e3 hc rfl) ?_
      refine lv_astore_n (lv' := [(3, .ref q9), (0, .ref (z 0)), (1, .int p1), (2, .ref oo)]) hx hb dL_check_15 rfl hl (by decide) rfl (fun ls hl => ?_)
      refine lv_iconst (v := 2) hx hb dL_check_16 (by decide) ?_
      exact W.iret (v := 2) hx hb hr (fun t ht hW => ⟨⟨2, (v.2.2, g), rfl, by rw [wr_1 (v := v) c0 hc]; exact ⟨rfl, rfl⟩, by rw [ht]; exact hT, pw ht hO⟩, hS.F ht⟩) hS.2.2 dL_check_17 (hlocks := hlocks)
  · have hO : va_P D vwC (oW cs oo g) t.heap := p_keep hO (fun i q hq => by match i, hq with | 0, hq => (cases hq; exact ho) | i + 1, hq => simp [oW] at hq) hk
    refine lv_i2l hx hb dL_check_7 rfl ?_
    refine va_last (D := D) (ws := oW cs oo g ++ (zW cs z A v.2.2.2 ++ alW cs A v.2.2.1 19)) hx hb hK (hO.app (ts_all hT)) (o_D cs g v.2.2.1 v.2.2.2 hd ho) hS 0 4 rfl rfl (by unfold vp_in; decide) dL_check_8 (fun H locs hP _ hS => ?_)
    have hP : va_P D vwC (oW cs oo (vp_updL g (0 : Int32).toNatClampNeg v.2.1.toInt64) ++ (zW cs z A v.2.2.2 ++ alW cs A v.2.2.1 19)) H := hP
    have hT := ts_of_all (p_r hP)
    refine lv_goto (tgt := 18) hx hb dL_check_9 (by decide) ?_
    refine lv_iconst (v := 0) hx hb dL_check_18 (by decide) ?_
    exact W.iret (v := 0) hx hb hr (fun t ht hW => ⟨⟨0, (v.2.2, _), rfl, by rw [wr_0 (v := v) c0]; exact ⟨rfl, rfl⟩, by rw [ht]; exact hT, pw ht (p_l hP)⟩, hS.F ht⟩) hS.2.2 dL_check_19 (hlocks := hlocks)
theorem hd_L_coming : yL_coming.cls ≠ "java/lang/invoke/MethodHandle" ∧ yL_coming.cls ≠ "java/lang/invoke/VarHandle" ∧ (parseMethodDescriptor yL_coming.desc).map (fun d => d.parameters.length) = some 3 := by decide +kernel
theorem w_co_L_coming : (.codeWith yL_coming cL_coming 4 (some .int) [(0, 9, 12, 13)] : Cond) ∈ GL := gl (tb5 (List.mem_of_getElem? (i := 89) (by decide +kernel))) (by decide +kernel)
def sL_coming (Os : Nat → OF) (T : OF) (g : Nat → Int64) (p1 : Int32) : Int32 × TSt × (Nat → Int64) := wr [1] ((sX7_coming Os T p1).1, (sX7_coming Os T p1).2, (Os, T)) g
set_option maxHeartbeats 4000000 in
set_option maxRecDepth 100000 in
theorem c_L_coming (l : Launch) (D : va_G) (cs : Nat → ClassId) (z : Nat → Nat) (A : Nat → Nat → Nat) (adK adV : Nat → Nat) (oo : Nat) (Os : Nat → OF) (T : OF) (g : Nat → Int64) (p1 : Int32) (hd : tD z A) (ho : ¬ tA z A oo) (hlst : l.stackTraces = false)  (hc : (sX7_coming Os T p1).1 = 0 ∨ (sX7_coming Os T p1).1 = 1) : Met l yL_coming (.codeWith yL_coming cL_coming 4 (some .int) [(0, 9, 12, 13)] :: GL) ({ frames := 7, cells := 1, slots := 6, locals := 129 } : Room) (va_Pc [.ref (z 0), .int p1, .ref oo] (LWE D cs z A adK adV oo Os T g)) (va_Qi (fun (r9 : Int32) (u : TSt × (Nat → Int64)) => r9 = (sL_coming Os T g p1).1 ∧ u = (sL_coming Os T g p1).2) (fun u t => tsP D cs z A u.1.1 u.1.2 t.heap ∧ va_P D vwC (oW cs oo u.2) t.heap) (wAd z A oo)) 1 6 (wAd z A oo) := by
  refine met_h (lv := [(0, .ref (z 0)), (1, .int p1), (2, .ref oo)]) (by decide) (Nat.le_of_ble_eq_true rfl) rfl ?_
  intro p e s m args below meth c ls hx hb hr hml hts hown hlocks htab hB0 hl
  obtain ⟨⟨⟨⟨hT, hE⟩, hXE⟩, hO⟩, hN⟩ := hB0
  have hown : s.vm.findClass RL = some m.cls := hown
  have hK := hE.1
  unfold sL_coming
  refine lv_aload_n hx hb dL_coming_0 rfl (lv_at hl 2 rfl) ?_
  refine lv_iconst (v := 0) hx hb dL_coming_1 (by decide) ?_
  refine lv_aload_n hx hb dL_coming_2 rfl (lv_at hl 0 rfl) ?_
  refine lv_iload_n hx hb dL_coming_3 rfl (lv_at hl 1 rfl) ?_
  obtain ⟨v, hv⟩ : ∃ v, (sX7_coming Os T p1) = v := ⟨_, rfl⟩
  have k0 := c_X7_coming l D cs z A adK adV Os T p1 hd hlst
  rw [hv] at k0 hc ⊢
  refine x_r v (vx_runV (As := [.int p1]) (rest := [.int 0, .ref oo]) ⟨hx, hb, hml, hown, hts⟩ k0 (cwV 1 hts (good_V w_ml_L_85 w_im_X7_coming w_se_X7_coming w_in_X7 w_co_X7_coming) rfl rfl rfl ⟨rfl, hd_X7_coming⟩ ⟨Nat.le_of_ble_eq_true rfl, Nat.le_of_ble_eq_true rfl⟩) (te_V (C := RX7) (T9 := TX7) (N := 5) (ci := 7) (q0 := 0) hT hE hXE va_S.rf rfl rfl) rfl rfl hl.1 rfl (lv_room (Nat.le_of_ble_eq_true rfl)) dL_coming_4 ⟨Nat.le_of_ble_eq_true rfl, Nat.le_of_ble_eq_true rfl⟩) (va_S.rf : va_S (wAd z A oo) s.heap s.heap []) (fun _ _ h => Or.inl h) (fun _ h => Or.inl h) (fun c0 ce q9 t locs hT hz hk hS e1 e2 e3 => ?_) (fun c0 t locs hT hz hk hS => ?_)
  · have hO : va_P D vwC (oW cs oo g) t.heap := p_keep hO (fun i q hq => by match i, hq with | 0, hq => (cases hq; exact ho) | i + 1, hq => simp [oW] at hq) hk
    rcases hc with hc | hc
    · exact absurd hc c0
    · refine vx_catch (own := RL) (name := "java/lang/IllegalArgumentException") (E := "java/lang/IllegalArgumentException") hown [] ⟨0, 9, 12, 13⟩ [] htab (fun x h => absurd h List.not_mem_nil) (by decide) (by decide) (hts _ w_cl_L_13) (va_Nw.use rfl (hXE.2.1 _ x_mem1)) e1 e2 (wcl e3 hc rfl) ?_
      refine lv_astore_n (lv' := [(3, .ref q9), (0, .ref (z 0)), (1, .int p1), (2, .ref oo)]) hx hb dL_coming_12 rfl hl (by decide) rfl (fun ls hl => ?_)
      refine lv_iconst (v := 1) hx hb dL_coming_13 (by decide) ?_
      exact W.iret (v := 1) hx hb hr (fun t ht hW => ⟨⟨1, ((Os, T), g), rfl, by rw [wr_1 (v := (v.1, v.2, (Os, T))) c0 hc]; exact ⟨rfl, rfl⟩, by rw [ht]; exact hT, pw ht hO⟩, hS.F ht⟩) hS.2.2 dL_coming_14 (hlocks := hlocks)
  · have hO : va_P D vwC (oW cs oo g) t.heap := p_keep hO (fun i q hq => by match i, hq with | 0, hq => (cases hq; exact ho) | i + 1, hq => simp [oW] at hq) hk
    refine lv_i2l hx hb dL_coming_7 rfl ?_
    refine va_last (D := D) (ws := oW cs oo g ++ (zW cs z A T ++ alW cs A Os 19)) hx hb hK (hO.app (ts_all hT)) (o_D cs g Os T hd ho) hS 0 4 rfl rfl (by unfold vp_in; decide) dL_coming_8 (fun H locs hP _ hS => ?_)
    have hP : va_P D vwC (oW cs oo (vp_updL g (0 : Int32).toNatClampNeg v.2.toInt64) ++ (zW cs z A T ++ alW cs A Os 19)) H := hP
    have hT := ts_of_all (p_r hP)
    refine lv_goto (tgt := 15) hx hb dL_coming_9 (by decide) ?_
    refine lv_iconst (v := 0) hx hb dL_coming_15 (by decide) ?_
    exact W.iret (v := 0) hx hb hr (fun t ht hW => ⟨⟨0, ((Os, T), _), rfl, by rw [wr_0 (v := (v.1, v.2, (Os, T))) c0]; exact ⟨rfl, rfl⟩, by rw [ht]; exact hT, pw ht (p_l hP)⟩, hS.F ht⟩) hS.2.2 dL_coming_16 (hlocks := hlocks)
theorem hd_L_common : yL_common.cls ≠ "java/lang/invoke/MethodHandle" ∧ yL_common.cls ≠ "java/lang/invoke/VarHandle" ∧ (parseMethodDescriptor yL_common.desc).map (fun d => d.parameters.length) = some 4 := by decide +kernel
theorem w_co_L_common : (.codeWith yL_common cL_common 5 (some .int) [(0, 10, 13, 28)] : Cond) ∈ GL := gl (tb5 (List.mem_of_getElem? (i := 115) (by decide +kernel))) (by decide +kernel)
def sL_common (Os : Nat → OF) (T : OF) (g : Nat → Int64) (p1 : Int32) (p2 : Int32) : Int32 × TSt × (Nat → Int64) := wr [3] ((sX7_common Os T p1 p2).1, (sX7_common Os T p1 p2).2, (Os, T)) g
set_option maxHeartbeats 4000000 in
set_option maxRecDepth 100000 in
theorem c_L_common (l : Launch) (D : va_G) (cs : Nat → ClassId) (z : Nat → Nat) (A : Nat → Nat → Nat) (adK adV : Nat → Nat) (oo : Nat) (Os : Nat → OF) (T : OF) (g : Nat → Int64) (p1 : Int32) (p2 : Int32) (hd : tD z A) (ho : ¬ tA z A oo) (hlst : l.stackTraces = false)  (hc : (sX7_common Os T p1 p2).1 = 0 ∨ (sX7_common Os T p1 p2).1 = 3) : Met l yL_common (.codeWith yL_common cL_common 5 (some .int) [(0, 10, 13, 28)] :: GL) ({ frames := 8, cells := 2, slots := 12, locals := 125 } : Room) (va_Pc [.ref (z 0), .int p1, .int p2, .ref oo] (LWE D cs z A adK adV oo Os T g)) (va_Qi (fun (r9 : Int32) (u : TSt × (Nat → Int64)) => r9 = (sL_common Os T g p1 p2).1 ∧ u = (sL_common Os T g p1 p2).2) (fun u t => tsP D cs z A u.1.1 u.1.2 t.heap ∧ va_P D vwC (oW cs oo u.2) t.heap) (wAd z A oo)) 2 12 (wAd z A oo) := by
  refine met_h (lv := [(0, .ref (z 0)), (1, .int p1), (2, .int p2), (3, .ref oo)]) (by decide) (Nat.le_of_ble_eq_true rfl) rfl ?_
  intro p e s m args below meth c ls hx hb hr hml hts hown hlocks htab hB0 hl
  obtain ⟨⟨⟨⟨hT, hE⟩, hXE⟩, hO⟩, hN⟩ := hB0
  have hown : s.vm.findClass RL = some m.cls := hown
  have hK := hE.1
  unfold sL_common
  refine lv_aload_n hx hb dL_common_0 rfl (lv_at hl 3 rfl) ?_
  refine lv_iconst (v := 0) hx hb dL_common_1 (by decide) ?_
  refine lv_aload_n hx hb dL_common_2 rfl (lv_at hl 0 rfl) ?_
  refine lv_iload_n hx hb dL_common_3 rfl (lv_at hl 1 rfl) ?_
  refine lv_iload_n hx hb dL_common_4 rfl (lv_at hl 2 rfl) ?_
  obtain ⟨v, hv⟩ : ∃ v, (sX7_common Os T p1 p2) = v := ⟨_, rfl⟩
  have k0 := c_X7_common l D cs z A adK adV Os T p1 p2 hd hlst
  rw [hv] at k0 hc ⊢
  refine x_r v (vx_runV (As := [.int p1, .int p2]) (rest := [.int 0, .ref oo]) ⟨hx, hb, hml, hown, hts⟩ k0 (cwV 2 hts (good_V w_ml_L_91 w_im_X7_common w_se_X7_common w_in_X7 w_co_X7_common) rfl rfl rfl ⟨rfl, hd_X7_common⟩ ⟨Nat.le_of_ble_eq_true rfl, Nat.le_of_ble_eq_true rfl⟩) (te_V (C := RX7) (T9 := TX7) (N := 5) (ci := 7) (q0 := 0) hT hE hXE va_S.rf rfl rfl) rfl rfl hl.1 rfl (lv_room (Nat.le_of_ble_eq_true rfl)) dL_common_5 ⟨Nat.le_of_ble_eq_true rfl, Nat.le_of_ble_eq_true rfl⟩) (va_S.rf : va_S (wAd z A oo) s.heap s.heap []) (fun _ _ h => Or.inl h) (fun _ h => Or.inl h) (fun c0 ce q9 t locs hT hz hk hS e1 e2 e3 => ?_) (fun c0 t locs hT hz hk hS => ?_)
  · have hO : va_P D vwC (oW cs oo g) t.heap := p_keep hO (fun i q hq => by match i, hq with | 0, hq => (cases hq; exact ho) | i + 1, hq => simp [oW] at hq) hk
    rcases hc with hc | hc
    · exact absurd hc c0
    · refine vx_catch (own := RL) (name := "java/lang/IndexOutOfBoundsException") (E := "java/lang/IndexOutOfBoundsException") hown [] ⟨0, 10, 13, 28⟩ [] htab (fun x h => absurd h List.not_mem_nil) (by decide) (by decide) (hts _ w_cl_L_28) (va_Nw.use rfl (hXE.2.1 _ x_mem3)) e1 e2 (wcl e3 hc rfl) ?_
      refine lv_astore (lv' := [(4, .ref q9), (0, .ref (z 0)), (1, .int p1), (2, .int p2), (3, .ref oo)]) hx hb dL_common_13 hl (by decide) rfl (fun ls hl => ?_)
      refine lv_iconst (v := 1) hx hb dL_common_15 (by decide) ?_
      exact W.iret (v := 1) hx hb hr (fun t ht hW => ⟨⟨1, ((Os, T), g), rfl, by rw [wr_1 (v := (v.1, v.2, (Os, T))) c0 hc]; exact ⟨rfl, rfl⟩, by rw [ht]; exact hT, pw ht hO⟩, hS.F ht⟩) hS.2.2 dL_common_16 (hlocks := hlocks)
  · have hO : va_P D vwC (oW cs oo g) t.heap := p_keep hO (fun i q hq => by match i, hq with | 0, hq => (cases hq; exact ho) | i + 1, hq => simp [oW] at hq) hk
    refine lv_i2l hx hb dL_common_8 rfl ?_
    refine va_last (D := D) (ws := oW cs oo g ++ (zW cs z A T ++ alW cs A Os 19)) hx hb hK (hO.app (ts_all hT)) (o_D cs g Os T hd ho) hS 0 4 rfl rfl (by unfold vp_in; decide) dL_common_9 (fun H locs hP _ hS => ?_)
    have hP : va_P D vwC (oW cs oo (vp_updL g (0 : Int32).toNatClampNeg v.2.toInt64) ++ (zW cs z A T ++ alW cs A Os 19)) H := hP
    have hT := ts_of_all (p_r hP)
    refine lv_goto (tgt := 17) hx hb dL_common_10 (by decide) ?_
    refine lv_iconst (v := 0) hx hb dL_common_17 (by decide) ?_
    exact W.iret (v := 0) hx hb hr (fun t ht hW => ⟨⟨0, ((Os, T), _), rfl, by rw [wr_0 (v := (v.1, v.2, (Os, T))) c0]; exact ⟨rfl, rfl⟩, by rw [ht]; exact hT, pw ht (p_l hP)⟩, hS.F ht⟩) hS.2.2 dL_common_18 (hlocks := hlocks)
theorem hd_L_draw : yL_draw.cls ≠ "java/lang/invoke/MethodHandle" ∧ yL_draw.cls ≠ "java/lang/invoke/VarHandle" ∧ (parseMethodDescriptor yL_draw.desc).map (fun d => d.parameters.length) = some 3 := by decide +kernel
theorem w_co_L_draw : (.codeWith yL_draw cL_draw 4 (some .int) [(0, 9, 12, 28), (0, 9, 15, 15)] : Cond) ∈ GL := gl (tb4 (List.mem_of_getElem? (i := 125) (by decide +kernel))) (by decide +kernel)
def sL_draw (Os : Nat → OF) (T : OF) (g : Nat → Int64) (p1 : Int32) : Int32 × TSt × (Nat → Int64) := wr [3, 2] (sX7_draw Os T p1) g
set_option maxHeartbeats 4000000 in
set_option maxRecDepth 100000 in
theorem c_L_draw (l : Launch) (D : va_G) (cs : Nat → ClassId) (z : Nat → Nat) (A : Nat → Nat → Nat) (adK adV : Nat → Nat) (oo : Nat) (Os : Nat → OF) (T : OF) (g : Nat → Int64) (p1 : Int32) (hd : tD z A) (ho : ¬ tA z A oo) (hlst : l.stackTraces = false) (hn : vp_in (T.1 4) 15) (hc : (sX7_draw Os T p1).1 = 0 ∨ (sX7_draw Os T p1).1 = 3 ∨ (sX7_draw Os T p1).1 = 2) : Met l yL_draw (.codeWith yL_draw cL_draw 4 (some .int) [(0, 9, 12, 28), (0, 9, 15, 15)] :: GL) ({ frames := 8, cells := 1, slots := 6, locals := 153 } : Room) (va_Pc [.ref (z 0), .int p1, .ref oo] (LWE D cs z A adK adV oo Os T g)) (va_Qi (fun (r9 : Int32) (u : TSt × (Nat → Int64)) => r9 = (sL_draw Os T g p1).1 ∧ u = (sL_draw Os T g p1).2) (fun u t => tsP D cs z A u.1.1 u.1.2 t.heap ∧ va_P D vwC (oW cs oo u.2) t.heap) (wAd z A oo)) 1 6 (wAd z A oo) := by
  refine met_h (lv := [(0, .ref (z 0)), (1, .int p1), (2, .ref oo)]) (by decide) (Nat.le_of_ble_eq_true rfl) rfl ?_
  intro p e s m args below meth c ls hx hb hr hml hts hown hlocks htab hB0 hl
  obtain ⟨⟨⟨⟨hT, hE⟩, hXE⟩, hO⟩, hN⟩ := hB0
  have hown : s.vm.findClass RL = some m.cls := hown
  have hK := hE.1
  unfold sL_draw
  refine lv_aload_n hx hb dL_draw_0 rfl (lv_at hl 2 rfl) ?_
  refine lv_iconst (v := 0) hx hb dL_draw_1 (by decide) ?_
  refine lv_aload_n hx hb dL_draw_2 rfl (lv_at hl 0 rfl) ?_
  refine lv_iload_n hx hb dL_draw_3 rfl (lv_at hl 1 rfl) ?_
  obtain ⟨v, hv⟩ : ∃ v, (sX7_draw Os T p1) = v := ⟨_, rfl⟩
  have k0 := c_X7_draw l D cs z A adK adV Os T p1 hd hlst hn
  rw [hv] at k0 hc ⊢
  refine x_w v (vx_runV (As := [.int p1]) (rest := [.int 0, .ref oo]) ⟨hx, hb, hml, hown, hts⟩ k0 (cwV 1 hts (good_V w_ml_L_45 w_im_X7_draw w_se_X7_draw w_in_X7 w_co_X7_draw) rfl rfl rfl ⟨rfl, hd_X7_draw⟩ ⟨Nat.le_of_ble_eq_true rfl, Nat.le_of_ble_eq_true rfl⟩) (te_V (C := RX7) (T9 := TX7) (N := 5) (ci := 7) (q0 := 0) hT hE hXE va_S.rf rfl rfl) rfl rfl hl.1 rfl (lv_room (Nat.le_of_ble_eq_true rfl)) dL_draw_4 ⟨Nat.le_of_ble_eq_true rfl, Nat.le_of_ble_eq_true rfl⟩) (va_S.rf : va_S (wAd z A oo) s.heap s.heap []) (fun _ _ h => Or.inl h) (fun _ h => Or.inl h) (fun c0 ce q9 t locs hT hz hk hS e1 e2 e3 => ?_) (fun c0 t locs hT hz hk hS => ?_)
  · have hO : va_P D vwC (oW cs oo g) t.heap := p_keep hO (fun i q hq => by match i, hq with | 0, hq => (cases hq; exact ho) | i + 1, hq => simp [oW] at hq) hk
    rcases hc with hc | hc | hc
    · exact absurd hc c0
    · refine vx_catch (own := RL) (name := "java/lang/IndexOutOfBoundsException") (E := "java/lang/IndexOutOfBoundsException") hown [] ⟨0, 9, 12, 28⟩ [⟨0, 9, 15, 15⟩] htab (fun x h => absurd h List.not_mem_nil) (by decide) (by decide) (hts _ w_cl_L_28) (va_Nw.use rfl (hXE.2.1 _ x_mem3)) e1 e2 (wcl e3 hc rfl) ?_
      refine lv_astore_n (lv' := [(3, .ref q9), (0, .ref (z 0)), (1, .int p1), (2, .ref oo)]) hx hb dL_draw_12 rfl hl (by decide) rfl (fun ls hl => ?_)
      refine lv_iconst (v := 1) hx hb dL_draw_13 (by decide) ?_
      exact W.iret (v := 1) hx hb hr (fun t ht hW => ⟨⟨1, (v.2.2, g), rfl, by rw [wr_1 (v := v) c0 hc]; exact ⟨rfl, rfl⟩, by rw [ht]; exact hT, pw ht hO⟩, hS.F ht⟩) hS.2.2 dL_draw_14 (hlocks := hlocks)
    · refine vx_catch (own := RL) (name := "java/lang/IllegalStateException") (E := "java/lang/IllegalStateException") hown [⟨0, 9, 12, 28⟩] ⟨0, 9, 15, 15⟩ [] htab (fun x hx9 => by simp only [List.mem_cons, List.not_mem_nil, or_false] at hx9; subst hx9; exact Or.inr ⟨by decide, "java/lang/IndexOutOfBoundsException", hts _ w_cl_L_28, hN.2.2⟩) (by decide) (by decide) (hts _ w_cl_L_15) (va_Nw.use rfl (hXE.2.1 _ x_mem2)) e1 e2 (wcl e3 hc rfl) ?_
      refine lv_astore_n (lv' := [(3, .ref q9), (0, .ref (z 0)), (1, .int p1), (2, .ref oo)]) hx hb dL_draw_15 rfl hl (by decide) rfl (fun ls hl => ?_)
      refine lv_iconst (v := 2) hx hb dL_draw_16 (by decide) ?_
      exact W.iret (v := 2) hx hb hr (fun t ht hW => ⟨⟨2, (v.2.2, g), rfl, by rw [wr_1 (v := v) c0 hc]; exact ⟨rfl, rfl⟩, by rw [ht]; exact hT, pw ht hO⟩, hS.F ht⟩) hS.2.2 dL_draw_17 (hlocks := hlocks)
  · have hO : va_P D vwC (oW cs oo g) t.heap := p_keep hO (fun i q hq => by match i, hq with | 0, hq => (cases hq; exact ho) | i + 1, hq => simp [oW] at hq) hk
    refine lv_i2l hx hb dL_draw_7 rfl ?_
    refine va_last (D := D) (ws := oW cs oo g ++ (zW cs z A v.2.2.2 ++ alW cs A v.2.2.1 19)) hx hb hK (hO.app (ts_all hT)) (o_D cs g v.2.2.1 v.2.2.2 hd ho) hS 0 4 rfl rfl (by unfold vp_in; decide) dL_draw_8 (fun H locs hP _ hS => ?_)
    have hP : va_P D vwC (oW cs oo (vp_updL g (0 : Int32).toNatClampNeg v.2.1.toInt64) ++ (zW cs z A v.2.2.2 ++ alW cs A v.2.2.1 19)) H := hP
    have hT := ts_of_all (p_r hP)
    refine lv_goto (tgt := 18) hx hb dL_draw_9 (by decide) ?_
    refine lv_iconst (v := 0) hx hb dL_draw_18 (by decide) ?_
    exact W.iret (v := 0) hx hb hr (fun t ht hW => ⟨⟨0, (v.2.2, _), rfl, by rw [wr_0 (v := v) c0]; exact ⟨rfl, rfl⟩, by rw [ht]; exact hT, pw ht (p_l hP)⟩, hS.F ht⟩) hS.2.2 dL_draw_19 (hlocks := hlocks)
theorem hd_L_drawnIn : yL_drawnIn.cls ≠ "java/lang/invoke/MethodHandle" ∧ yL_drawnIn.cls ≠ "java/lang/invoke/VarHandle" ∧ (parseMethodDescriptor yL_drawnIn.desc).map (fun d => d.parameters.length) = some 4 := by decide +kernel
theorem w_co_L_drawnIn : (.codeWith yL_drawnIn cL_drawnIn 5 (some .int) [(0, 10, 13, 28), (0, 10, 17, 13)] : Cond) ∈ GL := gl (tb4 (List.mem_of_getElem? (i := 49) (by decide +kernel))) (by decide +kernel)
def sL_drawnIn (Os : Nat → OF) (T : OF) (g : Nat → Int64) (p1 : Int32) (p2 : Int32) : Int32 × TSt × (Nat → Int64) := wr [3, 1] ((sX7_drawnIn Os T p1 p2).1, (sX7_drawnIn Os T p1 p2).2, (Os, T)) g
set_option maxHeartbeats 4000000 in
set_option maxRecDepth 100000 in
theorem c_L_drawnIn (l : Launch) (D : va_G) (cs : Nat → ClassId) (z : Nat → Nat) (A : Nat → Nat → Nat) (adK adV : Nat → Nat) (oo : Nat) (Os : Nat → OF) (T : OF) (g : Nat → Int64) (p1 : Int32) (p2 : Int32) (hd : tD z A) (ho : ¬ tA z A oo) (hlst : l.stackTraces = false)  (hc : (sX7_drawnIn Os T p1 p2).1 = 0 ∨ (sX7_drawnIn Os T p1 p2).1 = 3 ∨ (sX7_drawnIn Os T p1 p2).1 = 1) : Met l yL_drawnIn (.codeWith yL_drawnIn cL_drawnIn 5 (some .int) [(0, 10, 13, 28), (0, 10, 17, 13)] :: GL) ({ frames := 8, cells := 2, slots := 12, locals := 125 } : Room) (va_Pc [.ref (z 0), .int p1, .int p2, .ref oo] (LWE D cs z A adK adV oo Os T g)) (va_Qi (fun (r9 : Int32) (u : TSt × (Nat → Int64)) => r9 = (sL_drawnIn Os T g p1 p2).1 ∧ u = (sL_drawnIn Os T g p1 p2).2) (fun u t => tsP D cs z A u.1.1 u.1.2 t.heap ∧ va_P D vwC (oW cs oo u.2) t.heap) (wAd z A oo)) 2 12 (wAd z A oo) := by
  refine met_h (lv := [(0, .ref (z 0)), (1, .int p1), (2, .int p2), (3, .ref oo)]) (by decide) (Nat.le_of_ble_eq_true rfl) rfl ?_
  intro p e s m args below meth c ls hx hb hr hml hts hown hlocks htab hB0 hl
  obtain ⟨⟨⟨⟨hT, hE⟩, hXE⟩, hO⟩, hN⟩ := hB0
  have hown : s.vm.findClass RL = some m.cls := hown
  have hK := hE.1
  unfold sL_drawnIn
  refine lv_aload_n hx hb dL_drawnIn_0 rfl (lv_at hl 3 rfl) ?_
  refine lv_iconst (v := 0) hx hb dL_drawnIn_1 (by decide) ?_
  refine lv_aload_n hx hb dL_drawnIn_2 rfl (lv_at hl 0 rfl) ?_
  refine lv_iload_n hx hb dL_drawnIn_3 rfl (lv_at hl 1 rfl) ?_
  refine lv_iload_n hx hb dL_drawnIn_4 rfl (lv_at hl 2 rfl) ?_
  obtain ⟨v, hv⟩ : ∃ v, (sX7_drawnIn Os T p1 p2) = v := ⟨_, rfl⟩
  have k0 := c_X7_drawnIn l D cs z A adK adV Os T p1 p2 hd hlst
  rw [hv] at k0 hc ⊢
  refine x_r v (vx_runV (As := [.int p1, .int p2]) (rest := [.int 0, .ref oo]) ⟨hx, hb, hml, hown, hts⟩ k0 (cwV 2 hts (good_V w_ml_L_33 w_im_X7_drawnIn w_se_X7_drawnIn w_in_X7 w_co_X7_drawnIn) rfl rfl rfl ⟨rfl, hd_X7_drawnIn⟩ ⟨Nat.le_of_ble_eq_true rfl, Nat.le_of_ble_eq_true rfl⟩) (te_V (C := RX7) (T9 := TX7) (N := 5) (ci := 7) (q0 := 0) hT hE hXE va_S.rf rfl rfl) rfl rfl hl.1 rfl (lv_room (Nat.le_of_ble_eq_true rfl)) dL_drawnIn_5 ⟨Nat.le_of_ble_eq_true rfl, Nat.le_of_ble_eq_true rfl⟩) (va_S.rf : va_S (wAd z A oo) s.heap s.heap []) (fun _ _ h => Or.inl h) (fun _ h => Or.inl h) (fun c0 ce q9 t locs hT hz hk hS e1 e2 e3 => ?_) (fun c0 t locs hT hz hk hS => ?_)
  · have hO : va_P D vwC (oW cs oo g) t.heap := p_keep hO (fun i q hq => by match i, hq with | 0, hq => (cases hq; exact ho) | i + 1, hq => simp [oW] at hq) hk
    rcases hc with hc | hc | hc
    · exact absurd hc c0
    · refine vx_catch (own := RL) (name := "java/lang/IndexOutOfBoundsException") (E := "java/lang/IndexOutOfBoundsException") hown [] ⟨0, 10, 13, 28⟩ [⟨0, 10, 17, 13⟩] htab (fun x h => absurd h List.not_mem_nil) (by decide) (by decide) (hts _ w_cl_L_28) (va_Nw.use rfl (hXE.2.1 _ x_mem3)) e1 e2 (wcl e3 hc rfl) ?_
      refine lv_astore (lv' := [(4, .ref q9), (0, .ref (z 0)), (1, .int p1), (2, .int p2), (3, .ref oo)]) hx hb dL_drawnIn_13 hl (by decide) rfl (fun ls hl => ?_)
      refine lv_iconst (v := 1) hx hb dL_drawnIn_15 (by decide) ?_
      exact W.iret (v := 1) hx hb hr (fun t ht hW => ⟨⟨1, ((Os, T), g), rfl, by rw [wr_1 (v := (v.1, v.2, (Os, T))) c0 hc]; exact ⟨rfl, rfl⟩, by rw [ht]; exact hT, pw ht hO⟩, hS.F ht⟩) hS.2.2 dL_drawnIn_16 (hlocks := hlocks)
    · refine vx_catch (own := RL) (name := "java/lang/IllegalArgumentException") (E := "java/lang/IllegalArgumentException") hown [⟨0, 10, 13, 28⟩] ⟨0, 10, 17, 13⟩ [] htab (fun x hx9 => by simp only [List.mem_cons, List.not_mem_nil, or_false] at hx9; subst hx9; exact Or.inr ⟨by decide, "java/lang/IndexOutOfBoundsException", hts _ w_cl_L_28, hN.2.1⟩) (by decide) (by decide) (hts _ w_cl_L_13) (va_Nw.use rfl (hXE.2.1 _ x_mem1)) e1 e2 (wcl e3 hc rfl) ?_
      refine lv_astore (lv' := [(4, .ref q9), (0, .ref (z 0)), (1, .int p1), (2, .int p2), (3, .ref oo)]) hx hb dL_drawnIn_17 hl (by decide) rfl (fun ls hl => ?_)
      refine lv_iconst (v := 2) hx hb dL_drawnIn_19 (by decide) ?_
      exact W.iret (v := 2) hx hb hr (fun t ht hW => ⟨⟨2, ((Os, T), g), rfl, by rw [wr_1 (v := (v.1, v.2, (Os, T))) c0 hc]; exact ⟨rfl, rfl⟩, by rw [ht]; exact hT, pw ht hO⟩, hS.F ht⟩) hS.2.2 dL_drawnIn_20 (hlocks := hlocks)
  · have hO : va_P D vwC (oW cs oo g) t.heap := p_keep hO (fun i q hq => by match i, hq with | 0, hq => (cases hq; exact ho) | i + 1, hq => simp [oW] at hq) hk
    refine lv_i2l hx hb dL_drawnIn_8 rfl ?_
    refine va_last (D := D) (ws := oW cs oo g ++ (zW cs z A T ++ alW cs A Os 19)) hx hb hK (hO.app (ts_all hT)) (o_D cs g Os T hd ho) hS 0 4 rfl rfl (by unfold vp_in; decide) dL_drawnIn_9 (fun H locs hP _ hS => ?_)
    have hP : va_P D vwC (oW cs oo (vp_updL g (0 : Int32).toNatClampNeg v.2.toInt64) ++ (zW cs z A T ++ alW cs A Os 19)) H := hP
    have hT := ts_of_all (p_r hP)
    refine lv_goto (tgt := 21) hx hb dL_drawnIn_10 (by decide) ?_
    refine lv_iconst (v := 0) hx hb dL_drawnIn_21 (by decide) ?_
    exact W.iret (v := 0) hx hb hr (fun t ht hW => ⟨⟨0, ((Os, T), _), rfl, by rw [wr_0 (v := (v.1, v.2, (Os, T))) c0]; exact ⟨rfl, rfl⟩, by rw [ht]; exact hT, pw ht (p_l hP)⟩, hS.F ht⟩) hS.2.2 dL_drawnIn_22 (hlocks := hlocks)
theorem hd_L_fetch : yL_fetch.cls ≠ "java/lang/invoke/MethodHandle" ∧ yL_fetch.cls ≠ "java/lang/invoke/VarHandle" ∧ (parseMethodDescriptor yL_fetch.desc).map (fun d => d.parameters.length) = some 3 := by decide +kernel
theorem w_co_L_fetch : (.codeWith yL_fetch cL_fetch 4 (some .int) [(0, 9, 12, 13)] : Cond) ∈ GL := gl (tb5 (List.mem_of_getElem? (i := 99) (by decide +kernel))) (by decide +kernel)
def sL_fetch (Os : Nat → OF) (T : OF) (g : Nat → Int64) (p1 : Int32) : Int32 × TSt × (Nat → Int64) := wr [1] ((sX7_fetch Os T p1).1, (sX7_fetch Os T p1).2, (Os, T)) g
set_option maxHeartbeats 4000000 in
set_option maxRecDepth 100000 in
theorem c_L_fetch (l : Launch) (D : va_G) (cs : Nat → ClassId) (z : Nat → Nat) (A : Nat → Nat → Nat) (adK adV : Nat → Nat) (oo : Nat) (Os : Nat → OF) (T : OF) (g : Nat → Int64) (p1 : Int32) (hd : tD z A) (ho : ¬ tA z A oo) (hlst : l.stackTraces = false)  (hc : (sX7_fetch Os T p1).1 = 0 ∨ (sX7_fetch Os T p1).1 = 1) : Met l yL_fetch (.codeWith yL_fetch cL_fetch 4 (some .int) [(0, 9, 12, 13)] :: GL) ({ frames := 7, cells := 1, slots := 6, locals := 130 } : Room) (va_Pc [.ref (z 0), .int p1, .ref oo] (LWE D cs z A adK adV oo Os T g)) (va_Qi (fun (r9 : Int32) (u : TSt × (Nat → Int64)) => r9 = (sL_fetch Os T g p1).1 ∧ u = (sL_fetch Os T g p1).2) (fun u t => tsP D cs z A u.1.1 u.1.2 t.heap ∧ va_P D vwC (oW cs oo u.2) t.heap) (wAd z A oo)) 1 6 (wAd z A oo) := by
  refine met_h (lv := [(0, .ref (z 0)), (1, .int p1), (2, .ref oo)]) (by decide) (Nat.le_of_ble_eq_true rfl) rfl ?_
  intro p e s m args below meth c ls hx hb hr hml hts hown hlocks htab hB0 hl
  obtain ⟨⟨⟨⟨hT, hE⟩, hXE⟩, hO⟩, hN⟩ := hB0
  have hown : s.vm.findClass RL = some m.cls := hown
  have hK := hE.1
  unfold sL_fetch
  refine lv_aload_n hx hb dL_fetch_0 rfl (lv_at hl 2 rfl) ?_
  refine lv_iconst (v := 0) hx hb dL_fetch_1 (by decide) ?_
  refine lv_aload_n hx hb dL_fetch_2 rfl (lv_at hl 0 rfl) ?_
  refine lv_iload_n hx hb dL_fetch_3 rfl (lv_at hl 1 rfl) ?_
  obtain ⟨v, hv⟩ : ∃ v, (sX7_fetch Os T p1) = v := ⟨_, rfl⟩
  have k0 := c_X7_fetch l D cs z A adK adV Os T p1 hd hlst
  rw [hv] at k0 hc ⊢
  refine x_r v (vx_runV (As := [.int p1]) (rest := [.int 0, .ref oo]) ⟨hx, hb, hml, hown, hts⟩ k0 (cwV 1 hts (good_V w_ml_L_88 w_im_X7_fetch w_se_X7_fetch w_in_X7 w_co_X7_fetch) rfl rfl rfl ⟨rfl, hd_X7_fetch⟩ ⟨Nat.le_of_ble_eq_true rfl, Nat.le_of_ble_eq_true rfl⟩) (te_V (C := RX7) (T9 := TX7) (N := 5) (ci := 7) (q0 := 0) hT hE hXE va_S.rf rfl rfl) rfl rfl hl.1 rfl (lv_room (Nat.le_of_ble_eq_true rfl)) dL_fetch_4 ⟨Nat.le_of_ble_eq_true rfl, Nat.le_of_ble_eq_true rfl⟩) (va_S.rf : va_S (wAd z A oo) s.heap s.heap []) (fun _ _ h => Or.inl h) (fun _ h => Or.inl h) (fun c0 ce q9 t locs hT hz hk hS e1 e2 e3 => ?_) (fun c0 t locs hT hz hk hS => ?_)
  · have hO : va_P D vwC (oW cs oo g) t.heap := p_keep hO (fun i q hq => by match i, hq with | 0, hq => (cases hq; exact ho) | i + 1, hq => simp [oW] at hq) hk
    rcases hc with hc | hc
    · exact absurd hc c0
    · refine vx_catch (own := RL) (name := "java/lang/IllegalArgumentException") (E := "java/lang/IllegalArgumentException") hown [] ⟨0, 9, 12, 13⟩ [] htab (fun x h => absurd h List.not_mem_nil) (by decide) (by decide) (hts _ w_cl_L_13) (va_Nw.use rfl (hXE.2.1 _ x_mem1)) e1 e2 (wcl e3 hc rfl) ?_
      refine lv_astore_n (lv' := [(3, .ref q9), (0, .ref (z 0)), (1, .int p1), (2, .ref oo)]) hx hb dL_fetch_12 rfl hl (by decide) rfl (fun ls hl => ?_)
      refine lv_iconst (v := 1) hx hb dL_fetch_13 (by decide) ?_
      exact W.iret (v := 1) hx hb hr (fun t ht hW => ⟨⟨1, ((Os, T), g), rfl, by rw [wr_1 (v := (v.1, v.2, (Os, T))) c0 hc]; exact ⟨rfl, rfl⟩, by rw [ht]; exact hT, pw ht hO⟩, hS.F ht⟩) hS.2.2 dL_fetch_14 (hlocks := hlocks)
  · have hO : va_P D vwC (oW cs oo g) t.heap := p_keep hO (fun i q hq => by match i, hq with | 0, hq => (cases hq; exact ho) | i + 1, hq => simp [oW] at hq) hk
    refine lv_i2l hx hb dL_fetch_7 rfl ?_
    refine va_last (D := D) (ws := oW cs oo g ++ (zW cs z A T ++ alW cs A Os 19)) hx hb hK (hO.app (ts_all hT)) (o_D cs g Os T hd ho) hS 0 4 rfl rfl (by unfold vp_in; decide) dL_fetch_8 (fun H locs hP _ hS => ?_)
    have hP : va_P D vwC (oW cs oo (vp_updL g (0 : Int32).toNatClampNeg v.2.toInt64) ++ (zW cs z A T ++ alW cs A Os 19)) H := hP
    have hT := ts_of_all (p_r hP)
    refine lv_goto (tgt := 15) hx hb dL_fetch_9 (by decide) ?_
    refine lv_iconst (v := 0) hx hb dL_fetch_15 (by decide) ?_
    exact W.iret (v := 0) hx hb hr (fun t ht hW => ⟨⟨0, ((Os, T), _), rfl, by rw [wr_0 (v := (v.1, v.2, (Os, T))) c0]; exact ⟨rfl, rfl⟩, by rw [ht]; exact hT, pw ht (p_l hP)⟩, hS.F ht⟩) hS.2.2 dL_fetch_16 (hlocks := hlocks)
theorem hd_L_field : yL_field.cls ≠ "java/lang/invoke/MethodHandle" ∧ yL_field.cls ≠ "java/lang/invoke/VarHandle" ∧ (parseMethodDescriptor yL_field.desc).map (fun d => d.parameters.length) = some 4 := by decide +kernel
theorem w_co_L_field : (.codeWith yL_field cL_field 5 (some .int) [(0, 10, 13, 28)] : Cond) ∈ GL := gl (tb4 (List.mem_of_getElem? (i := 39) (by decide +kernel))) (by decide +kernel)
def sL_field (Os : Nat → OF) (T : OF) (g : Nat → Int64) (p1 : Int32) (p2 : Int32) : Int32 × TSt × (Nat → Int64) := wr [3] ((sX7_field Os T p1 p2).1, (sX7_field Os T p1 p2).2, (Os, T)) g
set_option maxHeartbeats 4000000 in
set_option maxRecDepth 100000 in
theorem c_L_field (l : Launch) (D : va_G) (cs : Nat → ClassId) (z : Nat → Nat) (A : Nat → Nat → Nat) (adK adV : Nat → Nat) (oo : Nat) (Os : Nat → OF) (T : OF) (g : Nat → Int64) (p1 : Int32) (p2 : Int32) (hd : tD z A) (ho : ¬ tA z A oo) (hlst : l.stackTraces = false)  (hc : (sX7_field Os T p1 p2).1 = 0 ∨ (sX7_field Os T p1 p2).1 = 3) : Met l yL_field (.codeWith yL_field cL_field 5 (some .int) [(0, 10, 13, 28)] :: GL) ({ frames := 8, cells := 2, slots := 12, locals := 125 } : Room) (va_Pc [.ref (z 0), .int p1, .int p2, .ref oo] (LWE D cs z A adK adV oo Os T g)) (va_Qi (fun (r9 : Int32) (u : TSt × (Nat → Int64)) => r9 = (sL_field Os T g p1 p2).1 ∧ u = (sL_field Os T g p1 p2).2) (fun u t => tsP D cs z A u.1.1 u.1.2 t.heap ∧ va_P D vwC (oW cs oo u.2) t.heap) (wAd z A oo)) 2 12 (wAd z A oo) := by
  refine met_h (lv := [(0, .ref (z 0)), (1, .int p1), (2, .int p2), (3, .ref oo)]) (by decide) (Nat.le_of_ble_eq_true rfl) rfl ?_
  intro p e s m args below meth c ls hx hb hr hml hts hown hlocks htab hB0 hl
  obtain ⟨⟨⟨⟨hT, hE⟩, hXE⟩, hO⟩, hN⟩ := hB0
  have hown : s.vm.findClass RL = some m.cls := hown
  have hK := hE.1
  unfold sL_field
  refine lv_aload_n hx hb dL_field_0 rfl (lv_at hl 3 rfl) ?_
  refine lv_iconst (v := 0) hx hb dL_field_1 (by decide) ?_
  refine lv_aload_n hx hb dL_field_2 rfl (lv_at hl 0 rfl) ?_
  refine lv_iload_n hx hb dL_field_3 rfl (lv_at hl 1 rfl) ?_
  refine lv_iload_n hx hb dL_field_4 rfl (lv_at hl 2 rfl) ?_
  obtain ⟨v, hv⟩ : ∃ v, (sX7_field Os T p1 p2) = v := ⟨_, rfl⟩
  have k0 := c_X7_field l D cs z A adK adV Os T p1 p2 hd hlst
  rw [hv] at k0 hc ⊢
  refine x_r v (vx_runV (As := [.int p1, .int p2]) (rest := [.int 0, .ref oo]) ⟨hx, hb, hml, hown, hts⟩ k0 (cwV 2 hts (good_V w_ml_L_30 w_im_X7_field w_se_X7_field w_in_X7 w_co_X7_field) rfl rfl rfl ⟨rfl, hd_X7_field⟩ ⟨Nat.le_of_ble_eq_true rfl, Nat.le_of_ble_eq_true rfl⟩) (te_V (C := RX7) (T9 := TX7) (N := 5) (ci := 7) (q0 := 0) hT hE hXE va_S.rf rfl rfl) rfl rfl hl.1 rfl (lv_room (Nat.le_of_ble_eq_true rfl)) dL_field_5 ⟨Nat.le_of_ble_eq_true rfl, Nat.le_of_ble_eq_true rfl⟩) (va_S.rf : va_S (wAd z A oo) s.heap s.heap []) (fun _ _ h => Or.inl h) (fun _ h => Or.inl h) (fun c0 ce q9 t locs hT hz hk hS e1 e2 e3 => ?_) (fun c0 t locs hT hz hk hS => ?_)
  · have hO : va_P D vwC (oW cs oo g) t.heap := p_keep hO (fun i q hq => by match i, hq with | 0, hq => (cases hq; exact ho) | i + 1, hq => simp [oW] at hq) hk
    rcases hc with hc | hc
    · exact absurd hc c0
    · refine vx_catch (own := RL) (name := "java/lang/IndexOutOfBoundsException") (E := "java/lang/IndexOutOfBoundsException") hown [] ⟨0, 10, 13, 28⟩ [] htab (fun x h => absurd h List.not_mem_nil) (by decide) (by decide) (hts _ w_cl_L_28) (va_Nw.use rfl (hXE.2.1 _ x_mem3)) e1 e2 (wcl e3 hc rfl) ?_
      refine lv_astore (lv' := [(4, .ref q9), (0, .ref (z 0)), (1, .int p1), (2, .int p2), (3, .ref oo)]) hx hb dL_field_13 hl (by decide) rfl (fun ls hl => ?_)
      refine lv_iconst (v := 1) hx hb dL_field_15 (by decide) ?_
      exact W.iret (v := 1) hx hb hr (fun t ht hW => ⟨⟨1, ((Os, T), g), rfl, by rw [wr_1 (v := (v.1, v.2, (Os, T))) c0 hc]; exact ⟨rfl, rfl⟩, by rw [ht]; exact hT, pw ht hO⟩, hS.F ht⟩) hS.2.2 dL_field_16 (hlocks := hlocks)
  · have hO : va_P D vwC (oW cs oo g) t.heap := p_keep hO (fun i q hq => by match i, hq with | 0, hq => (cases hq; exact ho) | i + 1, hq => simp [oW] at hq) hk
    refine lv_i2l hx hb dL_field_8 rfl ?_
    refine va_last (D := D) (ws := oW cs oo g ++ (zW cs z A T ++ alW cs A Os 19)) hx hb hK (hO.app (ts_all hT)) (o_D cs g Os T hd ho) hS 0 4 rfl rfl (by unfold vp_in; decide) dL_field_9 (fun H locs hP _ hS => ?_)
    have hP : va_P D vwC (oW cs oo (vp_updL g (0 : Int32).toNatClampNeg v.2.toInt64) ++ (zW cs z A T ++ alW cs A Os 19)) H := hP
    have hT := ts_of_all (p_r hP)
    refine lv_goto (tgt := 17) hx hb dL_field_10 (by decide) ?_
    refine lv_iconst (v := 0) hx hb dL_field_17 (by decide) ?_
    exact W.iret (v := 0) hx hb hr (fun t ht hW => ⟨⟨0, ((Os, T), _), rfl, by rw [wr_0 (v := (v.1, v.2, (Os, T))) c0]; exact ⟨rfl, rfl⟩, by rw [ht]; exact hT, pw ht (p_l hP)⟩, hS.F ht⟩) hS.2.2 dL_field_18 (hlocks := hlocks)
theorem hd_L_ifRevised : yL_ifRevised.cls ≠ "java/lang/invoke/MethodHandle" ∧ yL_ifRevised.cls ≠ "java/lang/invoke/VarHandle" ∧ (parseMethodDescriptor yL_ifRevised.desc).map (fun d => d.parameters.length) = some 5 := by decide +kernel
theorem w_co_L_ifRevised : (.codeWith yL_ifRevised cL_ifRevised 6 (some .int) [(0, 12, 15, 28), (0, 12, 19, 13), (0, 12, 23, 15)] : Cond) ∈ GL := gl (tb5 (List.mem_of_getElem? (i := 64) (by decide +kernel))) (by decide +kernel)
def sL_ifRevised (Os : Nat → OF) (T : OF) (g : Nat → Int64) (p1 : Int32) (p2 : Int32) (p3 : Int32) : Int32 × TSt × (Nat → Int64) := wr [3, 1, 2] ((sX7_ifRevised Os T p1 p2 p3).1, (sX7_ifRevised Os T p1 p2 p3).2, (Os, T)) g
set_option maxHeartbeats 4000000 in
set_option maxRecDepth 100000 in
theorem c_L_ifRevised (l : Launch) (D : va_G) (cs : Nat → ClassId) (z : Nat → Nat) (A : Nat → Nat → Nat) (adK adV : Nat → Nat) (oo : Nat) (Os : Nat → OF) (T : OF) (g : Nat → Int64) (p1 : Int32) (p2 : Int32) (p3 : Int32) (hd : tD z A) (ho : ¬ tA z A oo) (hlst : l.stackTraces = false)  (hc : (sX7_ifRevised Os T p1 p2 p3).1 = 0 ∨ (sX7_ifRevised Os T p1 p2 p3).1 = 3 ∨ (sX7_ifRevised Os T p1 p2 p3).1 = 1 ∨ (sX7_ifRevised Os T p1 p2 p3).1 = 2) : Met l yL_ifRevised (.codeWith yL_ifRevised cL_ifRevised 6 (some .int) [(0, 12, 15, 28), (0, 12, 19, 13), (0, 12, 23, 15)] :: GL) ({ frames := 8, cells := 2, slots := 12, locals := 153 } : Room) (va_Pc [.ref (z 0), .int p1, .int p2, .int p3, .ref oo] (LWE D cs z A adK adV oo Os T g)) (va_Qi (fun (r9 : Int32) (u : TSt × (Nat → Int64)) => r9 = (sL_ifRevised Os T g p1 p2 p3).1 ∧ u = (sL_ifRevised Os T g p1 p2 p3).2) (fun u t => tsP D cs z A u.1.1 u.1.2 t.heap ∧ va_P D vwC (oW cs oo u.2) t.heap) (wAd z A oo)) 2 12 (wAd z A oo) := by
  refine met_h (lv := [(0, .ref (z 0)), (1, .int p1), (2, .int p2), (3, .int p3), (4, .ref oo)]) (by decide) (Nat.le_of_ble_eq_true rfl) rfl ?_
  intro p e s m args below meth c ls hx hb hr hml hts hown hlocks htab hB0 hl
  obtain ⟨⟨⟨⟨hT, hE⟩, hXE⟩, hO⟩, hN⟩ := hB0
  have hown : s.vm.findClass RL = some m.cls := hown
  have hK := hE.1
  unfold sL_ifRevised
  refine lv_aload hx hb dL_ifRevised_0 (lv_at hl 4 rfl) ?_
  refine lv_iconst (v := 0) hx hb dL_ifRevised_2 (by decide) ?_
  refine lv_aload_n hx hb dL_ifRevised_3 rfl (lv_at hl 0 rfl) ?_
  refine lv_iload_n hx hb dL_ifRevised_4 rfl (lv_at hl 1 rfl) ?_
  refine lv_iload_n hx hb dL_ifRevised_5 rfl (lv_at hl 2 rfl) ?_
  refine lv_iload_n hx hb dL_ifRevised_6 rfl (lv_at hl 3 rfl) ?_
  obtain ⟨v, hv⟩ : ∃ v, (sX7_ifRevised Os T p1 p2 p3) = v := ⟨_, rfl⟩
  have k0 := c_X7_ifRevised l D cs z A adK adV Os T p1 p2 p3 hd hlst
  rw [hv] at k0 hc ⊢
  refine x_r v (vx_runV (As := [.int p1, .int p2, .int p3]) (rest := [.int 0, .ref oo]) ⟨hx, hb, hml, hown, hts⟩ k0 (cwV 3 hts (good_V w_ml_L_81 w_im_X7_ifRevised w_se_X7_ifRevised w_in_X7 w_co_X7_ifRevised) rfl rfl rfl ⟨rfl, hd_X7_ifRevised⟩ ⟨Nat.le_of_ble_eq_true rfl, Nat.le_of_ble_eq_true rfl⟩) (te_V (C := RX7) (T9 := TX7) (N := 5) (ci := 7) (q0 := 0) hT hE hXE va_S.rf rfl rfl) rfl rfl hl.1 rfl (lv_room (Nat.le_of_ble_eq_true rfl)) dL_ifRevised_7 ⟨Nat.le_of_ble_eq_true rfl, Nat.le_of_ble_eq_true rfl⟩) (va_S.rf : va_S (wAd z A oo) s.heap s.heap []) (fun _ _ h => Or.inl h) (fun _ h => Or.inl h) (fun c0 ce q9 t locs hT hz hk hS e1 e2 e3 => ?_) (fun c0 t locs hT hz hk hS => ?_)
  · have hO : va_P D vwC (oW cs oo g) t.heap := p_keep hO (fun i q hq => by match i, hq with | 0, hq => (cases hq; exact ho) | i + 1, hq => simp [oW] at hq) hk
    rcases hc with hc | hc | hc | hc
    · exact absurd hc c0
    · refine vx_catch (own := RL) (name := "java/lang/IndexOutOfBoundsException") (E := "java/lang/IndexOutOfBoundsException") hown [] ⟨0, 12, 15, 28⟩ [⟨0, 12, 19, 13⟩, ⟨0, 12, 23, 15⟩] htab (fun x h => absurd h List.not_mem_nil) (by decide) (by decide) (hts _ w_cl_L_28) (va_Nw.use rfl (hXE.2.1 _ x_mem3)) e1 e2 (wcl e3 hc rfl) ?_
      refine lv_astore (lv' := [(5, .ref q9), (0, .ref (z 0)), (1, .int p1), (2, .int p2), (3, .int p3), (4, .ref oo)]) hx hb dL_ifRevised_15 hl (by decide) rfl (fun ls hl => ?_)
      refine lv_iconst (v := 1) hx hb dL_ifRevised_17 (by decide) ?_
      exact W.iret (v := 1) hx hb hr (fun t ht hW => ⟨⟨1, ((Os, T), g), rfl, by rw [wr_1 (v := (v.1, v.2, (Os, T))) c0 hc]; exact ⟨rfl, rfl⟩, by rw [ht]; exact hT, pw ht hO⟩, hS.F ht⟩) hS.2.2 dL_ifRevised_18 (hlocks := hlocks)
    · refine vx_catch (own := RL) (name := "java/lang/IllegalArgumentException") (E := "java/lang/IllegalArgumentException") hown [⟨0, 12, 15, 28⟩] ⟨0, 12, 19, 13⟩ [⟨0, 12, 23, 15⟩] htab (fun x hx9 => by simp only [List.mem_cons, List.not_mem_nil, or_false] at hx9; subst hx9; exact Or.inr ⟨by decide, "java/lang/IndexOutOfBoundsException", hts _ w_cl_L_28, hN.2.1⟩) (by decide) (by decide) (hts _ w_cl_L_13) (va_Nw.use rfl (hXE.2.1 _ x_mem1)) e1 e2 (wcl e3 hc rfl) ?_
      refine lv_astore (lv' := [(5, .ref q9), (0, .ref (z 0)), (1, .int p1), (2, .int p2), (3, .int p3), (4, .ref oo)]) hx hb dL_ifRevised_19 hl (by decide) rfl (fun ls hl => ?_)
      refine lv_iconst (v := 2) hx hb dL_ifRevised_21 (by decide) ?_
      exact W.iret (v := 2) hx hb hr (fun t ht hW => ⟨⟨2, ((Os, T), g), rfl, by rw [wr_1 (v := (v.1, v.2, (Os, T))) c0 hc]; exact ⟨rfl, rfl⟩, by rw [ht]; exact hT, pw ht hO⟩, hS.F ht⟩) hS.2.2 dL_ifRevised_22 (hlocks := hlocks)
    · refine vx_catch (own := RL) (name := "java/lang/IllegalStateException") (E := "java/lang/IllegalStateException") hown [⟨0, 12, 15, 28⟩, ⟨0, 12, 19, 13⟩] ⟨0, 12, 23, 15⟩ [] htab (fun x hx9 => by
      simp only [List.mem_cons, List.not_mem_nil, or_false] at hx9
      rcases hx9 with rfl | rfl
      · exact Or.inr ⟨by decide, "java/lang/IndexOutOfBoundsException", hts _ w_cl_L_28, hN.2.2⟩
      · exact Or.inr ⟨by decide, "java/lang/IllegalArgumentException", hts _ w_cl_L_13, hN.1⟩) (by decide) (by decide) (hts _ w_cl_L_15) (va_Nw.use rfl (hXE.2.1 _ x_mem2)) e1 e2 (wcl e3 hc rfl) ?_
      refine lv_astore (lv' := [(5, .ref q9), (0, .ref (z 0)), (1, .int p1), (2, .int p2), (3, .int p3), (4, .ref oo)]) hx hb dL_ifRevised_23 hl (by decide) rfl (fun ls hl => ?_)
      refine lv_iconst (v := 3) hx hb dL_ifRevised_25 (by decide) ?_
      exact W.iret (v := 3) hx hb hr (fun t ht hW => ⟨⟨3, ((Os, T), g), rfl, by rw [wr_1 (v := (v.1, v.2, (Os, T))) c0 hc]; exact ⟨rfl, rfl⟩, by rw [ht]; exact hT, pw ht hO⟩, hS.F ht⟩) hS.2.2 dL_ifRevised_26 (hlocks := hlocks)
  · have hO : va_P D vwC (oW cs oo g) t.heap := p_keep hO (fun i q hq => by match i, hq with | 0, hq => (cases hq; exact ho) | i + 1, hq => simp [oW] at hq) hk
    refine lv_i2l hx hb dL_ifRevised_10 rfl ?_
    refine va_last (D := D) (ws := oW cs oo g ++ (zW cs z A T ++ alW cs A Os 19)) hx hb hK (hO.app (ts_all hT)) (o_D cs g Os T hd ho) hS 0 4 rfl rfl (by unfold vp_in; decide) dL_ifRevised_11 (fun H locs hP _ hS => ?_)
    have hP : va_P D vwC (oW cs oo (vp_updL g (0 : Int32).toNatClampNeg v.2.toInt64) ++ (zW cs z A T ++ alW cs A Os 19)) H := hP
    have hT := ts_of_all (p_r hP)
    refine lv_goto (tgt := 27) hx hb dL_ifRevised_12 (by decide) ?_
    refine lv_iconst (v := 0) hx hb dL_ifRevised_27 (by decide) ?_
    exact W.iret (v := 0) hx hb hr (fun t ht hW => ⟨⟨0, ((Os, T), _), rfl, by rw [wr_0 (v := (v.1, v.2, (Os, T))) c0]; exact ⟨rfl, rfl⟩, by rw [ht]; exact hT, pw ht (p_l hP)⟩, hS.F ht⟩) hS.2.2 dL_ifRevised_28 (hlocks := hlocks)
theorem hd_L_load : yL_load.cls ≠ "java/lang/invoke/MethodHandle" ∧ yL_load.cls ≠ "java/lang/invoke/VarHandle" ∧ (parseMethodDescriptor yL_load.desc).map (fun d => d.parameters.length) = some 2 := by decide +kernel
theorem w_co_L_load : (.codeWith yL_load cL_load 3 (some .int) [(0, 8, 11, 15)] : Cond) ∈ GL := gl (tb3 (List.mem_of_getElem? (i := 56) (by decide +kernel))) (by decide +kernel)
def sL_load (Os : Nat → OF) (T : OF) (g : Nat → Int64)  : Int32 × TSt × (Nat → Int64) := wr [2] (sX7_load Os T) g
set_option maxHeartbeats 4000000 in
set_option maxRecDepth 100000 in
theorem c_L_load (l : Launch) (D : va_G) (cs : Nat → ClassId) (z : Nat → Nat) (A : Nat → Nat → Nat) (adK adV : Nat → Nat) (oo : Nat) (Os : Nat → OF) (T : OF) (g : Nat → Int64)  (hd : tD z A) (ho : ¬ tA z A oo) (hlst : l.stackTraces = false)  (hc : (sX7_load Os T).1 = 0 ∨ (sX7_load Os T).1 = 2) : Met l yL_load (.codeWith yL_load cL_load 3 (some .int) [(0, 8, 11, 15)] :: GL) ({ frames := 9, cells := 1, slots := 6, locals := 195 } : Room) (va_Pc [.ref (z 0), .ref oo] (LWE D cs z A adK adV oo Os T g)) (va_Qi (fun (r9 : Int32) (u : TSt × (Nat → Int64)) => r9 = (sL_load Os T g).1 ∧ u = (sL_load Os T g).2) (fun u t => tsP D cs z A u.1.1 u.1.2 t.heap ∧ va_P D vwC (oW cs oo u.2) t.heap) (wAd z A oo)) 1 6 (wAd z A oo) := by
  refine met_h (lv := [(0, .ref (z 0)), (1, .ref oo)]) (by decide) (Nat.le_of_ble_eq_true rfl) rfl ?_
  intro p e s m args below meth c ls hx hb hr hml hts hown hlocks htab hB0 hl
  obtain ⟨⟨⟨⟨hT, hE⟩, hXE⟩, hO⟩, hN⟩ := hB0
  have hown : s.vm.findClass RL = some m.cls := hown
  have hK := hE.1
  unfold sL_load
  refine lv_aload_n hx hb dL_load_0 rfl (lv_at hl 1 rfl) ?_
  refine lv_iconst (v := 0) hx hb dL_load_1 (by decide) ?_
  refine lv_aload_n hx hb dL_load_2 rfl (lv_at hl 0 rfl) ?_
  obtain ⟨v, hv⟩ : ∃ v, (sX7_load Os T) = v := ⟨_, rfl⟩
  have k0 := c_X7_load l D cs z A adK adV Os T hd hlst
  rw [hv] at k0 hc ⊢
  refine x_w v (vx_runV (As := []) (rest := [.int 0, .ref oo]) ⟨hx, hb, hml, hown, hts⟩ k0 (cwV 0 hts (good_V w_ml_L_17 w_im_X7_load w_se_X7_load w_in_X7 w_co_X7_load) rfl rfl rfl ⟨rfl, hd_X7_load⟩ ⟨Nat.le_of_ble_eq_true rfl, Nat.le_of_ble_eq_true rfl⟩) (te_V (C := RX7) (T9 := TX7) (N := 5) (ci := 7) (q0 := 0) hT hE hXE va_S.rf rfl rfl) rfl rfl hl.1 rfl (lv_room (Nat.le_of_ble_eq_true rfl)) dL_load_3 ⟨Nat.le_of_ble_eq_true rfl, Nat.le_of_ble_eq_true rfl⟩) (va_S.rf : va_S (wAd z A oo) s.heap s.heap []) (fun _ _ h => Or.inl h) (fun _ h => Or.inl h) (fun c0 ce q9 t locs hT hz hk hS e1 e2 e3 => ?_) (fun c0 t locs hT hz hk hS => ?_)
  · have hO : va_P D vwC (oW cs oo g) t.heap := p_keep hO (fun i q hq => by match i, hq with | 0, hq => (cases hq; exact ho) | i + 1, hq => simp [oW] at hq) hk
    rcases hc with hc | hc
    · exact absurd hc c0
    · refine vx_catch (own := RL) (name := "java/lang/IllegalStateException") (E := "java/lang/IllegalStateException") hown [] ⟨0, 8, 11, 15⟩ [] htab (fun x h => absurd h List.not_mem_nil) (by decide) (by decide) (hts _ w_cl_L_15) (va_Nw.use rfl (hXE.2.1 _ x_mem2)) e1 e2 (wcl e3 hc rfl) ?_
      refine lv_astore_n (lv' := [(2, .ref q9), (0, .ref (z 0)), (1, .ref oo)]) hx hb dL_load_11 rfl hl (by decide) rfl (fun ls hl => ?_)
      refine lv_iconst (v := 1) hx hb dL_load_12 (by decide) ?_
      exact W.iret (v := 1) hx hb hr (fun t ht hW => ⟨⟨1, (v.2.2, g), rfl, by rw [wr_1 (v := v) c0 hc]; exact ⟨rfl, rfl⟩, by rw [ht]; exact hT, pw ht hO⟩, hS.F ht⟩) hS.2.2 dL_load_13 (hlocks := hlocks)
  · have hO : va_P D vwC (oW cs oo g) t.heap := p_keep hO (fun i q hq => by match i, hq with | 0, hq => (cases hq; exact ho) | i + 1, hq => simp [oW] at hq) hk
    refine lv_i2l hx hb dL_load_6 rfl ?_
    refine va_last (D := D) (ws := oW cs oo g ++ (zW cs z A v.2.2.2 ++ alW cs A v.2.2.1 19)) hx hb hK (hO.app (ts_all hT)) (o_D cs g v.2.2.1 v.2.2.2 hd ho) hS 0 4 rfl rfl (by unfold vp_in; decide) dL_load_7 (fun H locs hP _ hS => ?_)
    have hP : va_P D vwC (oW cs oo (vp_updL g (0 : Int32).toNatClampNeg v.2.1.toInt64) ++ (zW cs z A v.2.2.2 ++ alW cs A v.2.2.1 19)) H := hP
    have hT := ts_of_all (p_r hP)
    refine lv_goto (tgt := 14) hx hb dL_load_8 (by decide) ?_
    refine lv_iconst (v := 0) hx hb dL_load_14 (by decide) ?_
    exact W.iret (v := 0) hx hb hr (fun t ht hW => ⟨⟨0, (v.2.2, _), rfl, by rw [wr_0 (v := v) c0]; exact ⟨rfl, rfl⟩, by rw [ht]; exact hT, pw ht (p_l hP)⟩, hS.F ht⟩) hS.2.2 dL_load_15 (hlocks := hlocks)
theorem hd_L_mend : yL_mend.cls ≠ "java/lang/invoke/MethodHandle" ∧ yL_mend.cls ≠ "java/lang/invoke/VarHandle" ∧ (parseMethodDescriptor yL_mend.desc).map (fun d => d.parameters.length) = some 3 := by decide +kernel
theorem w_co_L_mend : (.codeWith yL_mend cL_mend 4 (some .int) [(0, 9, 12, 28), (0, 9, 15, 15)] : Cond) ∈ GL := gl (tb4 (List.mem_of_getElem? (i := 238) (by decide +kernel))) (by decide +kernel)
def sL_mend (Os : Nat → OF) (T : OF) (g : Nat → Int64) (p1 : Int32) : Int32 × TSt × (Nat → Int64) := wr [3, 2] (sX7_mend Os T p1) g
set_option maxHeartbeats 4000000 in
set_option maxRecDepth 100000 in
theorem c_L_mend (l : Launch) (D : va_G) (cs : Nat → ClassId) (z : Nat → Nat) (A : Nat → Nat → Nat) (adK adV : Nat → Nat) (oo : Nat) (Os : Nat → OF) (T : OF) (g : Nat → Int64) (p1 : Int32) (hd : tD z A) (ho : ¬ tA z A oo) (hlst : l.stackTraces = false) (hn : vp_in (T.1 4) 15) (hc : (sX7_mend Os T p1).1 = 0 ∨ (sX7_mend Os T p1).1 = 3 ∨ (sX7_mend Os T p1).1 = 2) : Met l yL_mend (.codeWith yL_mend cL_mend 4 (some .int) [(0, 9, 12, 28), (0, 9, 15, 15)] :: GL) ({ frames := 8, cells := 1, slots := 6, locals := 153 } : Room) (va_Pc [.ref (z 0), .int p1, .ref oo] (LWE D cs z A adK adV oo Os T g)) (va_Qi (fun (r9 : Int32) (u : TSt × (Nat → Int64)) => r9 = (sL_mend Os T g p1).1 ∧ u = (sL_mend Os T g p1).2) (fun u t => tsP D cs z A u.1.1 u.1.2 t.heap ∧ va_P D vwC (oW cs oo u.2) t.heap) (wAd z A oo)) 1 6 (wAd z A oo) := by
  refine met_h (lv := [(0, .ref (z 0)), (1, .int p1), (2, .ref oo)]) (by decide) (Nat.le_of_ble_eq_true rfl) rfl ?_
  intro p e s m args below meth c ls hx hb hr hml hts hown hlocks htab hB0 hl
  obtain ⟨⟨⟨⟨hT, hE⟩, hXE⟩, hO⟩, hN⟩ := hB0
  have hown : s.vm.findClass RL = some m.cls := hown
  have hK := hE.1
  unfold sL_mend
  refine lv_aload_n hx hb dL_mend_0 rfl (lv_at hl 2 rfl) ?_
  refine lv_iconst (v := 0) hx hb dL_mend_1 (by decide) ?_
  refine lv_aload_n hx hb dL_mend_2 rfl (lv_at hl 0 rfl) ?_
  refine lv_iload_n hx hb dL_mend_3 rfl (lv_at hl 1 rfl) ?_
  obtain ⟨v, hv⟩ : ∃ v, (sX7_mend Os T p1) = v := ⟨_, rfl⟩
  have k0 := c_X7_mend l D cs z A adK adV Os T p1 hd hlst hn
  rw [hv] at k0 hc ⊢
  refine x_w v (vx_runV (As := [.int p1]) (rest := [.int 0, .ref oo]) ⟨hx, hb, hml, hown, hts⟩ k0 (cwV 1 hts (good_V w_ml_L_66 w_im_X7_mend w_se_X7_mend w_in_X7 w_co_X7_mend) rfl rfl rfl ⟨rfl, hd_X7_mend⟩ ⟨Nat.le_of_ble_eq_true rfl, Nat.le_of_ble_eq_true rfl⟩) (te_V (C := RX7) (T9 := TX7) (N := 5) (ci := 7) (q0 := 0) hT hE hXE va_S.rf rfl rfl) rfl rfl hl.1 rfl (lv_room (Nat.le_of_ble_eq_true rfl)) dL_mend_4 ⟨Nat.le_of_ble_eq_true rfl, Nat.le_of_ble_eq_true rfl⟩) (va_S.rf : va_S (wAd z A oo) s.heap s.heap []) (fun _ _ h => Or.inl h) (fun _ h => Or.inl h) (fun c0 ce q9 t locs hT hz hk hS e1 e2 e3 => ?_) (fun c0 t locs hT hz hk hS => ?_)
  · have hO : va_P D vwC (oW cs oo g) t.heap := p_keep hO (fun i q hq => by match i, hq with | 0, hq => (cases hq; exact ho) | i + 1, hq => simp [oW] at hq) hk
    rcases hc with hc | hc | hc
    · exact absurd hc c0
    · refine vx_catch (own := RL) (name := "java/lang/IndexOutOfBoundsException") (E := "java/lang/IndexOutOfBoundsException") hown [] ⟨0, 9, 12, 28⟩ [⟨0, 9, 15, 15⟩] htab (fun x h => absurd h List.not_mem_nil) (by decide) (by decide) (hts _ w_cl_L_28) (va_Nw.use rfl (hXE.2.1 _ x_mem3)) e1 e2 (wcl e3 hc rfl) ?_
      refine lv_astore_n (lv' := [(3, .ref q9), (0, .ref (z 0)), (1, .int p1), (2, .ref oo)]) hx hb dL_mend_12 rfl hl (by decide) rfl (fun ls hl => ?_)
      refine lv_iconst (v := 1) hx hb dL_mend_13 (by decide) ?_
      exact W.iret (v := 1) hx hb hr (fun t ht hW => ⟨⟨1, (v.2.2, g), rfl, by rw [wr_1 (v := v) c0 hc]; exact ⟨rfl, rfl⟩, by rw [ht]; exact hT, pw ht hO⟩, hS.F ht⟩) hS.2.2 dL_mend_14 (hlocks := hlocks)
    · refine vx_catch (own := RL) (name := "java/lang/IllegalStateException") (E := "java/lang/IllegalStateException") hown [⟨0, 9, 12, 28⟩] ⟨0, 9, 15, 15⟩ [] htab (fun x hx9 => by simp only [List.mem_cons, List.not_mem_nil, or_false] at hx9; subst hx9; exact Or.inr ⟨by decide, "java/lang/IndexOutOfBoundsException", hts _ w_cl_L_28, hN.2.2⟩) (by decide) (by decide) (hts _ w_cl_L_15) (va_Nw.use rfl (hXE.2.1 _ x_mem2)) e1 e2 (wcl e3 hc rfl) ?_
      refine lv_astore_n (lv' := [(3, .ref q9), (0, .ref (z 0)), (1, .int p1), (2, .ref oo)]) hx hb dL_mend_15 rfl hl (by decide) rfl (fun ls hl => ?_)
      refine lv_iconst (v := 2) hx hb dL_mend_16 (by decide) ?_
      exact W.iret (v := 2) hx hb hr (fun t ht hW => ⟨⟨2, (v.2.2, g), rfl, by rw [wr_1 (v := v) c0 hc]; exact ⟨rfl, rfl⟩, by rw [ht]; exact hT, pw ht hO⟩, hS.F ht⟩) hS.2.2 dL_mend_17 (hlocks := hlocks)
  · have hO : va_P D vwC (oW cs oo g) t.heap := p_keep hO (fun i q hq => by match i, hq with | 0, hq => (cases hq; exact ho) | i + 1, hq => simp [oW] at hq) hk
    refine lv_i2l hx hb dL_mend_7 rfl ?_
    refine va_last (D := D) (ws := oW cs oo g ++ (zW cs z A v.2.2.2 ++ alW cs A v.2.2.1 19)) hx hb hK (hO.app (ts_all hT)) (o_D cs g v.2.2.1 v.2.2.2 hd ho) hS 0 4 rfl rfl (by unfold vp_in; decide) dL_mend_8 (fun H locs hP _ hS => ?_)
    have hP : va_P D vwC (oW cs oo (vp_updL g (0 : Int32).toNatClampNeg v.2.1.toInt64) ++ (zW cs z A v.2.2.2 ++ alW cs A v.2.2.1 19)) H := hP
    have hT := ts_of_all (p_r hP)
    refine lv_goto (tgt := 18) hx hb dL_mend_9 (by decide) ?_
    refine lv_iconst (v := 0) hx hb dL_mend_18 (by decide) ?_
    exact W.iret (v := 0) hx hb hr (fun t ht hW => ⟨⟨0, (v.2.2, _), rfl, by rw [wr_0 (v := v) c0]; exact ⟨rfl, rfl⟩, by rw [ht]; exact hT, pw ht (p_l hP)⟩, hS.F ht⟩) hS.2.2 dL_mend_19 (hlocks := hlocks)
theorem hd_L_print : yL_print.cls ≠ "java/lang/invoke/MethodHandle" ∧ yL_print.cls ≠ "java/lang/invoke/VarHandle" ∧ (parseMethodDescriptor yL_print.desc).map (fun d => d.parameters.length) = some 4 := by decide +kernel
theorem w_co_L_print : (.codeWith yL_print cL_print 5 (some .int) [(0, 10, 13, 28), (0, 10, 17, 15)] : Cond) ∈ GL := gl (tb4 (List.mem_of_getElem? (i := 193) (by decide +kernel))) (by decide +kernel)
def sL_print (Os : Nat → OF) (T : OF) (g : Nat → Int64) (p1 : Int32) (p2 : Int32) : Int32 × TSt × (Nat → Int64) := wr [3, 2] (sX7_print Os T p1 p2) g
set_option maxHeartbeats 4000000 in
set_option maxRecDepth 100000 in
theorem c_L_print (l : Launch) (D : va_G) (cs : Nat → ClassId) (z : Nat → Nat) (A : Nat → Nat → Nat) (adK adV : Nat → Nat) (oo : Nat) (Os : Nat → OF) (T : OF) (g : Nat → Int64) (p1 : Int32) (p2 : Int32) (hd : tD z A) (ho : ¬ tA z A oo) (hlst : l.stackTraces = false) (hn : vp_in (T.1 4) 15) (hc : (sX7_print Os T p1 p2).1 = 0 ∨ (sX7_print Os T p1 p2).1 = 3 ∨ (sX7_print Os T p1 p2).1 = 2) : Met l yL_print (.codeWith yL_print cL_print 5 (some .int) [(0, 10, 13, 28), (0, 10, 17, 15)] :: GL) ({ frames := 8, cells := 1, slots := 6, locals := 154 } : Room) (va_Pc [.ref (z 0), .int p1, .int p2, .ref oo] (LWE D cs z A adK adV oo Os T g)) (va_Qi (fun (r9 : Int32) (u : TSt × (Nat → Int64)) => r9 = (sL_print Os T g p1 p2).1 ∧ u = (sL_print Os T g p1 p2).2) (fun u t => tsP D cs z A u.1.1 u.1.2 t.heap ∧ va_P D vwC (oW cs oo u.2) t.heap) (wAd z A oo)) 1 6 (wAd z A oo) := by
  refine met_h (lv := [(0, .ref (z 0)), (1, .int p1), (2, .int p2), (3, .ref oo)]) (by decide) (Nat.le_of_ble_eq_true rfl) rfl ?_
  intro p e s m args below meth c ls hx hb hr hml hts hown hlocks htab hB0 hl
  obtain ⟨⟨⟨⟨hT, hE⟩, hXE⟩, hO⟩, hN⟩ := hB0
  have hown : s.vm.findClass RL = some m.cls := hown
  have hK := hE.1
  unfold sL_print
  refine lv_aload_n hx hb dL_print_0 rfl (lv_at hl 3 rfl) ?_
  refine lv_iconst (v := 0) hx hb dL_print_1 (by decide) ?_
  refine lv_aload_n hx hb dL_print_2 rfl (lv_at hl 0 rfl) ?_
  refine lv_iload_n hx hb dL_print_3 rfl (lv_at hl 1 rfl) ?_
  refine lv_iload_n hx hb dL_print_4 rfl (lv_at hl 2 rfl) ?_
  obtain ⟨v, hv⟩ : ∃ v, (sX7_print Os T p1 p2) = v := ⟨_, rfl⟩
  have k0 := c_X7_print l D cs z A adK adV Os T p1 p2 hd hlst hn
  rw [hv] at k0 hc ⊢
  refine x_w v (vx_runV (As := [.int p1, .int p2]) (rest := [.int 0, .ref oo]) ⟨hx, hb, hml, hown, hts⟩ k0 (cwV 2 hts (good_V w_ml_L_54 w_im_X7_print w_se_X7_print w_in_X7 w_co_X7_print) rfl rfl rfl ⟨rfl, hd_X7_print⟩ ⟨Nat.le_of_ble_eq_true rfl, Nat.le_of_ble_eq_true rfl⟩) (te_V (C := RX7) (T9 := TX7) (N := 5) (ci := 7) (q0 := 0) hT hE hXE va_S.rf rfl rfl) rfl rfl hl.1 rfl (lv_room (Nat.le_of_ble_eq_true rfl)) dL_print_5 ⟨Nat.le_of_ble_eq_true rfl, Nat.le_of_ble_eq_true rfl⟩) (va_S.rf : va_S (wAd z A oo) s.heap s.heap []) (fun _ _ h => Or.inl h) (fun _ h => Or.inl h) (fun c0 ce q9 t locs hT hz hk hS e1 e2 e3 => ?_) (fun c0 t locs hT hz hk hS => ?_)
  · have hO : va_P D vwC (oW cs oo g) t.heap := p_keep hO (fun i q hq => by match i, hq with | 0, hq => (cases hq; exact ho) | i + 1, hq => simp [oW] at hq) hk
    rcases hc with hc | hc | hc
    · exact absurd hc c0
    · refine vx_catch (own := RL) (name := "java/lang/IndexOutOfBoundsException") (E := "java/lang/IndexOutOfBoundsException") hown [] ⟨0, 10, 13, 28⟩ [⟨0, 10, 17, 15⟩] htab (fun x h => absurd h List.not_mem_nil) (by decide) (by decide) (hts _ w_cl_L_28) (va_Nw.use rfl (hXE.2.1 _ x_mem3)) e1 e2 (wcl e3 hc rfl) ?_
      refine lv_astore (lv' := [(4, .ref q9), (0, .ref (z 0)), (1, .int p1), (2, .int p2), (3, .ref oo)]) hx hb dL_print_13 hl (by decide) rfl (fun ls hl => ?_)
      refine lv_iconst (v := 1) hx hb dL_print_15 (by decide) ?_
      exact W.iret (v := 1) hx hb hr (fun t ht hW => ⟨⟨1, (v.2.2, g), rfl, by rw [wr_1 (v := v) c0 hc]; exact ⟨rfl, rfl⟩, by rw [ht]; exact hT, pw ht hO⟩, hS.F ht⟩) hS.2.2 dL_print_16 (hlocks := hlocks)
    · refine vx_catch (own := RL) (name := "java/lang/IllegalStateException") (E := "java/lang/IllegalStateException") hown [⟨0, 10, 13, 28⟩] ⟨0, 10, 17, 15⟩ [] htab (fun x hx9 => by simp only [List.mem_cons, List.not_mem_nil, or_false] at hx9; subst hx9; exact Or.inr ⟨by decide, "java/lang/IndexOutOfBoundsException", hts _ w_cl_L_28, hN.2.2⟩) (by decide) (by decide) (hts _ w_cl_L_15) (va_Nw.use rfl (hXE.2.1 _ x_mem2)) e1 e2 (wcl e3 hc rfl) ?_
      refine lv_astore (lv' := [(4, .ref q9), (0, .ref (z 0)), (1, .int p1), (2, .int p2), (3, .ref oo)]) hx hb dL_print_17 hl (by decide) rfl (fun ls hl => ?_)
      refine lv_iconst (v := 2) hx hb dL_print_19 (by decide) ?_
      exact W.iret (v := 2) hx hb hr (fun t ht hW => ⟨⟨2, (v.2.2, g), rfl, by rw [wr_1 (v := v) c0 hc]; exact ⟨rfl, rfl⟩, by rw [ht]; exact hT, pw ht hO⟩, hS.F ht⟩) hS.2.2 dL_print_20 (hlocks := hlocks)
  · have hO : va_P D vwC (oW cs oo g) t.heap := p_keep hO (fun i q hq => by match i, hq with | 0, hq => (cases hq; exact ho) | i + 1, hq => simp [oW] at hq) hk
    refine lv_i2l hx hb dL_print_8 rfl ?_
    refine va_last (D := D) (ws := oW cs oo g ++ (zW cs z A v.2.2.2 ++ alW cs A v.2.2.1 19)) hx hb hK (hO.app (ts_all hT)) (o_D cs g v.2.2.1 v.2.2.2 hd ho) hS 0 4 rfl rfl (by unfold vp_in; decide) dL_print_9 (fun H locs hP _ hS => ?_)
    have hP : va_P D vwC (oW cs oo (vp_updL g (0 : Int32).toNatClampNeg v.2.1.toInt64) ++ (zW cs z A v.2.2.2 ++ alW cs A v.2.2.1 19)) H := hP
    have hT := ts_of_all (p_r hP)
    refine lv_goto (tgt := 21) hx hb dL_print_10 (by decide) ?_
    refine lv_iconst (v := 0) hx hb dL_print_21 (by decide) ?_
    exact W.iret (v := 0) hx hb hr (fun t ht hW => ⟨⟨0, (v.2.2, _), rfl, by rw [wr_0 (v := v) c0]; exact ⟨rfl, rfl⟩, by rw [ht]; exact hT, pw ht (p_l hP)⟩, hS.F ht⟩) hS.2.2 dL_print_22 (hlocks := hlocks)
theorem hd_L_printed : yL_printed.cls ≠ "java/lang/invoke/MethodHandle" ∧ yL_printed.cls ≠ "java/lang/invoke/VarHandle" ∧ (parseMethodDescriptor yL_printed.desc).map (fun d => d.parameters.length) = some 4 := by decide +kernel
theorem w_co_L_printed : (.codeWith yL_printed cL_printed 5 (some .int) [(0, 10, 13, 28), (0, 10, 17, 13)] : Cond) ∈ GL := gl (tb4 (List.mem_of_getElem? (i := 63) (by decide +kernel))) (by decide +kernel)
def sL_printed (Os : Nat → OF) (T : OF) (g : Nat → Int64) (p1 : Int32) (p2 : Int32) : Int32 × TSt × (Nat → Int64) := wr [3, 1] ((sX7_printed Os T p1 p2).1, (sX7_printed Os T p1 p2).2, (Os, T)) g
set_option maxHeartbeats 4000000 in
set_option maxRecDepth 100000 in
theorem c_L_printed (l : Launch) (D : va_G) (cs : Nat → ClassId) (z : Nat → Nat) (A : Nat → Nat → Nat) (adK adV : Nat → Nat) (oo : Nat) (Os : Nat → OF) (T : OF) (g : Nat → Int64) (p1 : Int32) (p2 : Int32) (hd : tD z A) (ho : ¬ tA z A oo) (hlst : l.stackTraces = false)  (hc : (sX7_printed Os T p1 p2).1 = 0 ∨ (sX7_printed Os T p1 p2).1 = 3 ∨ (sX7_printed Os T p1 p2).1 = 1) : Met l yL_printed (.codeWith yL_printed cL_printed 5 (some .int) [(0, 10, 13, 28), (0, 10, 17, 13)] :: GL) ({ frames := 7, cells := 1, slots := 6, locals := 128 } : Room) (va_Pc [.ref (z 0), .int p1, .int p2, .ref oo] (LWE D cs z A adK adV oo Os T g)) (va_Qi (fun (r9 : Int32) (u : TSt × (Nat → Int64)) => r9 = (sL_printed Os T g p1 p2).1 ∧ u = (sL_printed Os T g p1 p2).2) (fun u t => tsP D cs z A u.1.1 u.1.2 t.heap ∧ va_P D vwC (oW cs oo u.2) t.heap) (wAd z A oo)) 1 6 (wAd z A oo) := by
  refine met_h (lv := [(0, .ref (z 0)), (1, .int p1), (2, .int p2), (3, .ref oo)]) (by decide) (Nat.le_of_ble_eq_true rfl) rfl ?_
  intro p e s m args below meth c ls hx hb hr hml hts hown hlocks htab hB0 hl
  obtain ⟨⟨⟨⟨hT, hE⟩, hXE⟩, hO⟩, hN⟩ := hB0
  have hown : s.vm.findClass RL = some m.cls := hown
  have hK := hE.1
  unfold sL_printed
  refine lv_aload_n hx hb dL_printed_0 rfl (lv_at hl 3 rfl) ?_
  refine lv_iconst (v := 0) hx hb dL_printed_1 (by decide) ?_
  refine lv_aload_n hx hb dL_printed_2 rfl (lv_at hl 0 rfl) ?_
  refine lv_iload_n hx hb dL_printed_3 rfl (lv_at hl 1 rfl) ?_
  refine lv_iload_n hx hb dL_printed_4 rfl (lv_at hl 2 rfl) ?_
  obtain ⟨v, hv⟩ : ∃ v, (sX7_printed Os T p1 p2) = v := ⟨_, rfl⟩
  have k0 := c_X7_printed l D cs z A adK adV Os T p1 p2 hd hlst
  rw [hv] at k0 hc ⊢
  refine x_r v (vx_runV (As := [.int p1, .int p2]) (rest := [.int 0, .ref oo]) ⟨hx, hb, hml, hown, hts⟩ k0 (cwV 2 hts (good_V w_ml_L_36 w_im_X7_printed w_se_X7_printed w_in_X7 w_co_X7_printed) rfl rfl rfl ⟨rfl, hd_X7_printed⟩ ⟨Nat.le_of_ble_eq_true rfl, Nat.le_of_ble_eq_true rfl⟩) (te_V (C := RX7) (T9 := TX7) (N := 5) (ci := 7) (q0 := 0) hT hE hXE va_S.rf rfl rfl) rfl rfl hl.1 rfl (lv_room (Nat.le_of_ble_eq_true rfl)) dL_printed_5 ⟨Nat.le_of_ble_eq_true rfl, Nat.le_of_ble_eq_true rfl⟩) (va_S.rf : va_S (wAd z A oo) s.heap s.heap []) (fun _ _ h => Or.inl h) (fun _ h => Or.inl h) (fun c0 ce q9 t locs hT hz hk hS e1 e2 e3 => ?_) (fun c0 t locs hT hz hk hS => ?_)
  · have hO : va_P D vwC (oW cs oo g) t.heap := p_keep hO (fun i q hq => by match i, hq with | 0, hq => (cases hq; exact ho) | i + 1, hq => simp [oW] at hq) hk
    rcases hc with hc | hc | hc
    · exact absurd hc c0
    · refine vx_catch (own := RL) (name := "java/lang/IndexOutOfBoundsException") (E := "java/lang/IndexOutOfBoundsException") hown [] ⟨0, 10, 13, 28⟩ [⟨0, 10, 17, 13⟩] htab (fun x h => absurd h List.not_mem_nil) (by decide) (by decide) (hts _ w_cl_L_28) (va_Nw.use rfl (hXE.2.1 _ x_mem3)) e1 e2 (wcl e3 hc rfl) ?_
      refine lv_astore (lv' := [(4, .ref q9), (0, .ref (z 0)), (1, .int p1), (2, .int p2), (3, .ref oo)]) hx hb dL_printed_13 hl (by decide) rfl (fun ls hl => ?_)
      refine lv_iconst (v := 1) hx hb dL_printed_15 (by decide) ?_
      exact W.iret (v := 1) hx hb hr (fun t ht hW => ⟨⟨1, ((Os, T), g), rfl, by rw [wr_1 (v := (v.1, v.2, (Os, T))) c0 hc]; exact ⟨rfl, rfl⟩, by rw [ht]; exact hT, pw ht hO⟩, hS.F ht⟩) hS.2.2 dL_printed_16 (hlocks := hlocks)
    · refine vx_catch (own := RL) (name := "java/lang/IllegalArgumentException") (E := "java/lang/IllegalArgumentException") hown [⟨0, 10, 13, 28⟩] ⟨0, 10, 17, 13⟩ [] htab (fun x hx9 => by simp only [List.mem_cons, List.not_mem_nil, or_false] at hx9; subst hx9; exact Or.inr ⟨by decide, "java/lang/IndexOutOfBoundsException", hts _ w_cl_L_28, hN.2.1⟩) (by decide) (by decide) (hts _ w_cl_L_13) (va_Nw.use rfl (hXE.2.1 _ x_mem1)) e1 e2 (wcl e3 hc rfl) ?_
      refine lv_astore (lv' := [(4, .ref q9), (0, .ref (z 0)), (1, .int p1), (2, .int p2), (3, .ref oo)]) hx hb dL_printed_17 hl (by decide) rfl (fun ls hl => ?_)
      refine lv_iconst (v := 2) hx hb dL_printed_19 (by decide) ?_
      exact W.iret (v := 2) hx hb hr (fun t ht hW => ⟨⟨2, ((Os, T), g), rfl, by rw [wr_1 (v := (v.1, v.2, (Os, T))) c0 hc]; exact ⟨rfl, rfl⟩, by rw [ht]; exact hT, pw ht hO⟩, hS.F ht⟩) hS.2.2 dL_printed_20 (hlocks := hlocks)
  · have hO : va_P D vwC (oW cs oo g) t.heap := p_keep hO (fun i q hq => by match i, hq with | 0, hq => (cases hq; exact ho) | i + 1, hq => simp [oW] at hq) hk
    refine lv_i2l hx hb dL_printed_8 rfl ?_
    refine va_last (D := D) (ws := oW cs oo g ++ (zW cs z A T ++ alW cs A Os 19)) hx hb hK (hO.app (ts_all hT)) (o_D cs g Os T hd ho) hS 0 4 rfl rfl (by unfold vp_in; decide) dL_printed_9 (fun H locs hP _ hS => ?_)
    have hP : va_P D vwC (oW cs oo (vp_updL g (0 : Int32).toNatClampNeg v.2.toInt64) ++ (zW cs z A T ++ alW cs A Os 19)) H := hP
    have hT := ts_of_all (p_r hP)
    refine lv_goto (tgt := 21) hx hb dL_printed_10 (by decide) ?_
    refine lv_iconst (v := 0) hx hb dL_printed_21 (by decide) ?_
    exact W.iret (v := 0) hx hb hr (fun t ht hW => ⟨⟨0, ((Os, T), _), rfl, by rw [wr_0 (v := (v.1, v.2, (Os, T))) c0]; exact ⟨rfl, rfl⟩, by rw [ht]; exact hT, pw ht (p_l hP)⟩, hS.F ht⟩) hS.2.2 dL_printed_22 (hlocks := hlocks)
theorem hd_L_restore : yL_restore.cls ≠ "java/lang/invoke/MethodHandle" ∧ yL_restore.cls ≠ "java/lang/invoke/VarHandle" ∧ (parseMethodDescriptor yL_restore.desc).map (fun d => d.parameters.length) = some 3 := by decide +kernel
theorem w_co_L_restore : (.codeWith yL_restore cL_restore 4 (some .int) [(0, 9, 12, 28), (0, 9, 15, 15)] : Cond) ∈ GL := gl (tb5 (List.mem_of_getElem? (i := 181) (by decide +kernel))) (by decide +kernel)
def sL_restore (Os : Nat → OF) (T : OF) (g : Nat → Int64) (p1 : Int32) : Int32 × TSt × (Nat → Int64) := wr [3, 2] (sX7_restore Os T p1) g
set_option maxHeartbeats 4000000 in
set_option maxRecDepth 100000 in
theorem c_L_restore (l : Launch) (D : va_G) (cs : Nat → ClassId) (z : Nat → Nat) (A : Nat → Nat → Nat) (adK adV : Nat → Nat) (oo : Nat) (Os : Nat → OF) (T : OF) (g : Nat → Int64) (p1 : Int32) (hd : tD z A) (ho : ¬ tA z A oo) (hlst : l.stackTraces = false)  (hc : (sX7_restore Os T p1).1 = 0 ∨ (sX7_restore Os T p1).1 = 3 ∨ (sX7_restore Os T p1).1 = 2) : Met l yL_restore (.codeWith yL_restore cL_restore 4 (some .int) [(0, 9, 12, 28), (0, 9, 15, 15)] :: GL) ({ frames := 7, cells := 1, slots := 6, locals := 154 } : Room) (va_Pc [.ref (z 0), .int p1, .ref oo] (LWE D cs z A adK adV oo Os T g)) (va_Qi (fun (r9 : Int32) (u : TSt × (Nat → Int64)) => r9 = (sL_restore Os T g p1).1 ∧ u = (sL_restore Os T g p1).2) (fun u t => tsP D cs z A u.1.1 u.1.2 t.heap ∧ va_P D vwC (oW cs oo u.2) t.heap) (wAd z A oo)) 1 6 (wAd z A oo) := by
  refine met_h (lv := [(0, .ref (z 0)), (1, .int p1), (2, .ref oo)]) (by decide) (Nat.le_of_ble_eq_true rfl) rfl ?_
  intro p e s m args below meth c ls hx hb hr hml hts hown hlocks htab hB0 hl
  obtain ⟨⟨⟨⟨hT, hE⟩, hXE⟩, hO⟩, hN⟩ := hB0
  have hown : s.vm.findClass RL = some m.cls := hown
  have hK := hE.1
  unfold sL_restore
  refine lv_aload_n hx hb dL_restore_0 rfl (lv_at hl 2 rfl) ?_
  refine lv_iconst (v := 0) hx hb dL_restore_1 (by decide) ?_
  refine lv_aload_n hx hb dL_restore_2 rfl (lv_at hl 0 rfl) ?_
  refine lv_iload_n hx hb dL_restore_3 rfl (lv_at hl 1 rfl) ?_
  obtain ⟨v, hv⟩ : ∃ v, (sX7_restore Os T p1) = v := ⟨_, rfl⟩
  have k0 := c_X7_restore l D cs z A adK adV Os T p1 hd hlst
  rw [hv] at k0 hc ⊢
  refine x_w v (vx_runV (As := [.int p1]) (rest := [.int 0, .ref oo]) ⟨hx, hb, hml, hown, hts⟩ k0 (cwV 1 hts (good_V w_ml_L_105 w_im_X7_restore w_se_X7_restore w_in_X7 w_co_X7_restore) rfl rfl rfl ⟨rfl, hd_X7_restore⟩ ⟨Nat.le_of_ble_eq_true rfl, Nat.le_of_ble_eq_true rfl⟩) (te_V (C := RX7) (T9 := TX7) (N := 5) (ci := 7) (q0 := 0) hT hE hXE va_S.rf rfl rfl) rfl rfl hl.1 rfl (lv_room (Nat.le_of_ble_eq_true rfl)) dL_restore_4 ⟨Nat.le_of_ble_eq_true rfl, Nat.le_of_ble_eq_true rfl⟩) (va_S.rf : va_S (wAd z A oo) s.heap s.heap []) (fun _ _ h => Or.inl h) (fun _ h => Or.inl h) (fun c0 ce q9 t locs hT hz hk hS e1 e2 e3 => ?_) (fun c0 t locs hT hz hk hS => ?_)
  · have hO : va_P D vwC (oW cs oo g) t.heap := p_keep hO (fun i q hq => by match i, hq with | 0, hq => (cases hq; exact ho) | i + 1, hq => simp [oW] at hq) hk
    rcases hc with hc | hc | hc
    · exact absurd hc c0
    · refine vx_catch (own := RL) (name := "java/lang/IndexOutOfBoundsException") (E := "java/lang/IndexOutOfBoundsException") hown [] ⟨0, 9, 12, 28⟩ [⟨0, 9, 15, 15⟩] htab (fun x h => absurd h List.not_mem_nil) (by decide) (by decide) (hts _ w_cl_L_28) (va_Nw.use rfl (hXE.2.1 _ x_mem3)) e1 e2 (wcl e3 hc rfl) ?_
      refine lv_astore_n (lv' := [(3, .ref q9), (0, .ref (z 0)), (1, .int p1), (2, .ref oo)]) hx hb dL_restore_12 rfl hl (by decide) rfl (fun ls hl => ?_)
      refine lv_iconst (v := 1) hx hb dL_restore_13 (by decide) ?_
      exact W.iret (v := 1) hx hb hr (fun t ht hW => ⟨⟨1, (v.2.2, g), rfl, by rw [wr_1 (v := v) c0 hc]; exact ⟨rfl, rfl⟩, by rw [ht]; exact hT, pw ht hO⟩, hS.F ht⟩) hS.2.2 dL_restore_14 (hlocks := hlocks)
    · refine vx_catch (own := RL) (name := "java/lang/IllegalStateException") (E := "java/lang/IllegalStateException") hown [⟨0, 9, 12, 28⟩] ⟨0, 9, 15, 15⟩ [] htab (fun x hx9 => by simp only [List.mem_cons, List.not_mem_nil, or_false] at hx9; subst hx9; exact Or.inr ⟨by decide, "java/lang/IndexOutOfBoundsException", hts _ w_cl_L_28, hN.2.2⟩) (by decide) (by decide) (hts _ w_cl_L_15) (va_Nw.use rfl (hXE.2.1 _ x_mem2)) e1 e2 (wcl e3 hc rfl) ?_
      refine lv_astore_n (lv' := [(3, .ref q9), (0, .ref (z 0)), (1, .int p1), (2, .ref oo)]) hx hb dL_restore_15 rfl hl (by decide) rfl (fun ls hl => ?_)
      refine lv_iconst (v := 2) hx hb dL_restore_16 (by decide) ?_
      exact W.iret (v := 2) hx hb hr (fun t ht hW => ⟨⟨2, (v.2.2, g), rfl, by rw [wr_1 (v := v) c0 hc]; exact ⟨rfl, rfl⟩, by rw [ht]; exact hT, pw ht hO⟩, hS.F ht⟩) hS.2.2 dL_restore_17 (hlocks := hlocks)
  · have hO : va_P D vwC (oW cs oo g) t.heap := p_keep hO (fun i q hq => by match i, hq with | 0, hq => (cases hq; exact ho) | i + 1, hq => simp [oW] at hq) hk
    refine lv_i2l hx hb dL_restore_7 rfl ?_
    refine va_last (D := D) (ws := oW cs oo g ++ (zW cs z A v.2.2.2 ++ alW cs A v.2.2.1 19)) hx hb hK (hO.app (ts_all hT)) (o_D cs g v.2.2.1 v.2.2.2 hd ho) hS 0 4 rfl rfl (by unfold vp_in; decide) dL_restore_8 (fun H locs hP _ hS => ?_)
    have hP : va_P D vwC (oW cs oo (vp_updL g (0 : Int32).toNatClampNeg v.2.1.toInt64) ++ (zW cs z A v.2.2.2 ++ alW cs A v.2.2.1 19)) H := hP
    have hT := ts_of_all (p_r hP)
    refine lv_goto (tgt := 18) hx hb dL_restore_9 (by decide) ?_
    refine lv_iconst (v := 0) hx hb dL_restore_18 (by decide) ?_
    exact W.iret (v := 0) hx hb hr (fun t ht hW => ⟨⟨0, (v.2.2, _), rfl, by rw [wr_0 (v := v) c0]; exact ⟨rfl, rfl⟩, by rw [ht]; exact hT, pw ht (p_l hP)⟩, hS.F ht⟩) hS.2.2 dL_restore_19 (hlocks := hlocks)
theorem hd_L_revise : yL_revise.cls ≠ "java/lang/invoke/MethodHandle" ∧ yL_revise.cls ≠ "java/lang/invoke/VarHandle" ∧ (parseMethodDescriptor yL_revise.desc).map (fun d => d.parameters.length) = some 4 := by decide +kernel
theorem w_co_L_revise : (.codeWith yL_revise cL_revise 5 (some .int) [(0, 10, 13, 28), (0, 10, 17, 13), (0, 10, 21, 15)] : Cond) ∈ GL := gl (tb4 (List.mem_of_getElem? (i := 174) (by decide +kernel))) (by decide +kernel)
def sL_revise (Os : Nat → OF) (T : OF) (g : Nat → Int64) (p1 : Int32) (p2 : Int32) : Int32 × TSt × (Nat → Int64) := wr [3, 1, 2] (sX7_revise Os T p1 p2) g
set_option maxHeartbeats 4000000 in
set_option maxRecDepth 100000 in
theorem c_L_revise (l : Launch) (D : va_G) (cs : Nat → ClassId) (z : Nat → Nat) (A : Nat → Nat → Nat) (adK adV : Nat → Nat) (oo : Nat) (Os : Nat → OF) (T : OF) (g : Nat → Int64) (p1 : Int32) (p2 : Int32) (hd : tD z A) (ho : ¬ tA z A oo) (hlst : l.stackTraces = false) (hn : vp_in (T.1 4) 15) (hc : (sX7_revise Os T p1 p2).1 = 0 ∨ (sX7_revise Os T p1 p2).1 = 3 ∨ (sX7_revise Os T p1 p2).1 = 1 ∨ (sX7_revise Os T p1 p2).1 = 2) : Met l yL_revise (.codeWith yL_revise cL_revise 5 (some .int) [(0, 10, 13, 28), (0, 10, 17, 13), (0, 10, 21, 15)] :: GL) ({ frames := 8, cells := 1, slots := 6, locals := 154 } : Room) (va_Pc [.ref (z 0), .int p1, .int p2, .ref oo] (LWE D cs z A adK adV oo Os T g)) (va_Qi (fun (r9 : Int32) (u : TSt × (Nat → Int64)) => r9 = (sL_revise Os T g p1 p2).1 ∧ u = (sL_revise Os T g p1 p2).2) (fun u t => tsP D cs z A u.1.1 u.1.2 t.heap ∧ va_P D vwC (oW cs oo u.2) t.heap) (wAd z A oo)) 1 6 (wAd z A oo) := by
  refine met_h (lv := [(0, .ref (z 0)), (1, .int p1), (2, .int p2), (3, .ref oo)]) (by decide) (Nat.le_of_ble_eq_true rfl) rfl ?_
  intro p e s m args below meth c ls hx hb hr hml hts hown hlocks htab hB0 hl
  obtain ⟨⟨⟨⟨hT, hE⟩, hXE⟩, hO⟩, hN⟩ := hB0
  have hown : s.vm.findClass RL = some m.cls := hown
  have hK := hE.1
  unfold sL_revise
  refine lv_aload_n hx hb dL_revise_0 rfl (lv_at hl 3 rfl) ?_
  refine lv_iconst (v := 0) hx hb dL_revise_1 (by decide) ?_
  refine lv_aload_n hx hb dL_revise_2 rfl (lv_at hl 0 rfl) ?_
  refine lv_iload_n hx hb dL_revise_3 rfl (lv_at hl 1 rfl) ?_
  refine lv_iload_n hx hb dL_revise_4 rfl (lv_at hl 2 rfl) ?_
  obtain ⟨v, hv⟩ : ∃ v, (sX7_revise Os T p1 p2) = v := ⟨_, rfl⟩
  have k0 := c_X7_revise l D cs z A adK adV Os T p1 p2 hd hlst hn
  rw [hv] at k0 hc ⊢
  refine x_w v (vx_runV (As := [.int p1, .int p2]) (rest := [.int 0, .ref oo]) ⟨hx, hb, hml, hown, hts⟩ k0 (cwV 2 hts (good_V w_ml_L_48 w_im_X7_revise w_se_X7_revise w_in_X7 w_co_X7_revise) rfl rfl rfl ⟨rfl, hd_X7_revise⟩ ⟨Nat.le_of_ble_eq_true rfl, Nat.le_of_ble_eq_true rfl⟩) (te_V (C := RX7) (T9 := TX7) (N := 5) (ci := 7) (q0 := 0) hT hE hXE va_S.rf rfl rfl) rfl rfl hl.1 rfl (lv_room (Nat.le_of_ble_eq_true rfl)) dL_revise_5 ⟨Nat.le_of_ble_eq_true rfl, Nat.le_of_ble_eq_true rfl⟩) (va_S.rf : va_S (wAd z A oo) s.heap s.heap []) (fun _ _ h => Or.inl h) (fun _ h => Or.inl h) (fun c0 ce q9 t locs hT hz hk hS e1 e2 e3 => ?_) (fun c0 t locs hT hz hk hS => ?_)
  · have hO : va_P D vwC (oW cs oo g) t.heap := p_keep hO (fun i q hq => by match i, hq with | 0, hq => (cases hq; exact ho) | i + 1, hq => simp [oW] at hq) hk
    rcases hc with hc | hc | hc | hc
    · exact absurd hc c0
    · refine vx_catch (own := RL) (name := "java/lang/IndexOutOfBoundsException") (E := "java/lang/IndexOutOfBoundsException") hown [] ⟨0, 10, 13, 28⟩ [⟨0, 10, 17, 13⟩, ⟨0, 10, 21, 15⟩] htab (fun x h => absurd h List.not_mem_nil) (by decide) (by decide) (hts _ w_cl_L_28) (va_Nw.use rfl (hXE.2.1 _ x_mem3)) e1 e2 (wcl e3 hc rfl) ?_
      refine lv_astore (lv' := [(4, .ref q9), (0, .ref (z 0)), (1, .int p1), (2, .int p2), (3, .ref oo)]) hx hb dL_revise_13 hl (by decide) rfl (fun ls hl => ?_)
      refine lv_iconst (v := 1) hx hb dL_revise_15 (by decide) ?_
      exact W.iret (v := 1) hx hb hr (fun t ht hW => ⟨⟨1, (v.2.2, g), rfl, by rw [wr_1 (v := v) c0 hc]; exact ⟨rfl, rfl⟩, by rw [ht]; exact hT, pw ht hO⟩, hS.F ht⟩) hS.2.2 dL_revise_16 (hlocks := hlocks)
    · refine vx_catch (own := RL) (name := "java/lang/IllegalArgumentException") (E := "java/lang/IllegalArgumentException") hown [⟨0, 10, 13, 28⟩] ⟨0, 10, 17, 13⟩ [⟨0, 10, 21, 15⟩] htab (fun x hx9 => by simp only [List.mem_cons, List.not_mem_nil, or_false] at hx9; subst hx9; exact Or.inr ⟨by decide, "java/lang/IndexOutOfBoundsException", hts _ w_cl_L_28, hN.2.1⟩) (by decide) (by decide) (hts _ w_cl_L_13) (va_Nw.use rfl (hXE.2.1 _ x_mem1)) e1 e2 (wcl e3 hc rfl) ?_
      refine lv_astore (lv' := [(4, .ref q9), (0, .ref (z 0)), (1, .int p1), (2, .int p2), (3, .ref oo)]) hx hb dL_revise_17 hl (by decide) rfl (fun ls hl => ?_)
      refine lv_iconst (v := 2) hx hb dL_revise_19 (by decide) ?_
      exact W.iret (v := 2) hx hb hr (fun t ht hW => ⟨⟨2, (v.2.2, g), rfl, by rw [wr_1 (v := v) c0 hc]; exact ⟨rfl, rfl⟩, by rw [ht]; exact hT, pw ht hO⟩, hS.F ht⟩) hS.2.2 dL_revise_20 (hlocks := hlocks)
    · refine vx_catch (own := RL) (name := "java/lang/IllegalStateException") (E := "java/lang/IllegalStateException") hown [⟨0, 10, 13, 28⟩, ⟨0, 10, 17, 13⟩] ⟨0, 10, 21, 15⟩ [] htab (fun x hx9 => by
      simp only [List.mem_cons, List.not_mem_nil, or_false] at hx9
      rcases hx9 with rfl | rfl
      · exact Or.inr ⟨by decide, "java/lang/IndexOutOfBoundsException", hts _ w_cl_L_28, hN.2.2⟩
      · exact Or.inr ⟨by decide, "java/lang/IllegalArgumentException", hts _ w_cl_L_13, hN.1⟩) (by decide) (by decide) (hts _ w_cl_L_15) (va_Nw.use rfl (hXE.2.1 _ x_mem2)) e1 e2 (wcl e3 hc rfl) ?_
      refine lv_astore (lv' := [(4, .ref q9), (0, .ref (z 0)), (1, .int p1), (2, .int p2), (3, .ref oo)]) hx hb dL_revise_21 hl (by decide) rfl (fun ls hl => ?_)
      refine lv_iconst (v := 3) hx hb dL_revise_23 (by decide) ?_
      exact W.iret (v := 3) hx hb hr (fun t ht hW => ⟨⟨3, (v.2.2, g), rfl, by rw [wr_1 (v := v) c0 hc]; exact ⟨rfl, rfl⟩, by rw [ht]; exact hT, pw ht hO⟩, hS.F ht⟩) hS.2.2 dL_revise_24 (hlocks := hlocks)
  · have hO : va_P D vwC (oW cs oo g) t.heap := p_keep hO (fun i q hq => by match i, hq with | 0, hq => (cases hq; exact ho) | i + 1, hq => simp [oW] at hq) hk
    refine lv_i2l hx hb dL_revise_8 rfl ?_
    refine va_last (D := D) (ws := oW cs oo g ++ (zW cs z A v.2.2.2 ++ alW cs A v.2.2.1 19)) hx hb hK (hO.app (ts_all hT)) (o_D cs g v.2.2.1 v.2.2.2 hd ho) hS 0 4 rfl rfl (by unfold vp_in; decide) dL_revise_9 (fun H locs hP _ hS => ?_)
    have hP : va_P D vwC (oW cs oo (vp_updL g (0 : Int32).toNatClampNeg v.2.1.toInt64) ++ (zW cs z A v.2.2.2 ++ alW cs A v.2.2.1 19)) H := hP
    have hT := ts_of_all (p_r hP)
    refine lv_goto (tgt := 25) hx hb dL_revise_10 (by decide) ?_
    refine lv_iconst (v := 0) hx hb dL_revise_25 (by decide) ?_
    exact W.iret (v := 0) hx hb hr (fun t ht hW => ⟨⟨0, (v.2.2, _), rfl, by rw [wr_0 (v := v) c0]; exact ⟨rfl, rfl⟩, by rw [ht]; exact hT, pw ht (p_l hP)⟩, hS.F ht⟩) hS.2.2 dL_revise_26 (hlocks := hlocks)
theorem hd_L_run : yL_run.cls ≠ "java/lang/invoke/MethodHandle" ∧ yL_run.cls ≠ "java/lang/invoke/VarHandle" ∧ (parseMethodDescriptor yL_run.desc).map (fun d => d.parameters.length) = some 3 := by decide +kernel
theorem w_co_L_run : (.codeWith yL_run cL_run 4 (some .int) [(0, 9, 12, 13)] : Cond) ∈ GL := gl (tb5 (List.mem_of_getElem? (i := 14) (by decide +kernel))) (by decide +kernel)
def sL_run (Os : Nat → OF) (T : OF) (g : Nat → Int64) (p1 : Int32) : Int32 × TSt × (Nat → Int64) := wr [1] (sX7_run Os T p1) g
set_option maxHeartbeats 4000000 in
set_option maxRecDepth 100000 in
theorem c_L_run (l : Launch) (D : va_G) (cs : Nat → ClassId) (z : Nat → Nat) (A : Nat → Nat → Nat) (adK adV : Nat → Nat) (oo : Nat) (Os : Nat → OF) (T : OF) (g : Nat → Int64) (p1 : Int32) (hd : tD z A) (ho : ¬ tA z A oo) (hlst : l.stackTraces = false) (hn : vp_in (T.1 4) 15) (hc : (sX7_run Os T p1).1 = 0 ∨ (sX7_run Os T p1).1 = 1) : Met l yL_run (.codeWith yL_run cL_run 4 (some .int) [(0, 9, 12, 13)] :: GL) ({ frames := 8, cells := 1, slots := 6, locals := 153 } : Room) (va_Pc [.ref (z 0), .int p1, .ref oo] (LWE D cs z A adK adV oo Os T g)) (va_Qi (fun (r9 : Int32) (u : TSt × (Nat → Int64)) => r9 = (sL_run Os T g p1).1 ∧ u = (sL_run Os T g p1).2) (fun u t => tsP D cs z A u.1.1 u.1.2 t.heap ∧ va_P D vwC (oW cs oo u.2) t.heap) (wAd z A oo)) 1 6 (wAd z A oo) := by
  refine met_h (lv := [(0, .ref (z 0)), (1, .int p1), (2, .ref oo)]) (by decide) (Nat.le_of_ble_eq_true rfl) rfl ?_
  intro p e s m args below meth c ls hx hb hr hml hts hown hlocks htab hB0 hl
  obtain ⟨⟨⟨⟨hT, hE⟩, hXE⟩, hO⟩, hN⟩ := hB0
  have hown : s.vm.findClass RL = some m.cls := hown
  have hK := hE.1
  unfold sL_run
  refine lv_aload_n hx hb dL_run_0 rfl (lv_at hl 2 rfl) ?_
  refine lv_iconst (v := 0) hx hb dL_run_1 (by decide) ?_
  refine lv_aload_n hx hb dL_run_2 rfl (lv_at hl 0 rfl) ?_
  refine lv_iload_n hx hb dL_run_3 rfl (lv_at hl 1 rfl) ?_
  obtain ⟨v, hv⟩ : ∃ v, (sX7_run Os T p1) = v := ⟨_, rfl⟩
  have k0 := c_X7_run l D cs z A adK adV Os T p1 hd hlst hn
  rw [hv] at k0 hc ⊢
  refine x_w v (vx_runV (As := [.int p1]) (rest := [.int 0, .ref oo]) ⟨hx, hb, hml, hown, hts⟩ k0 (cwV 1 hts (good_V w_ml_L_69 w_im_X7_run w_se_X7_run w_in_X7 w_co_X7_run) rfl rfl rfl ⟨rfl, hd_X7_run⟩ ⟨Nat.le_of_ble_eq_true rfl, Nat.le_of_ble_eq_true rfl⟩) (te_V (C := RX7) (T9 := TX7) (N := 5) (ci := 7) (q0 := 0) hT hE hXE va_S.rf rfl rfl) rfl rfl hl.1 rfl (lv_room (Nat.le_of_ble_eq_true rfl)) dL_run_4 ⟨Nat.le_of_ble_eq_true rfl, Nat.le_of_ble_eq_true rfl⟩) (va_S.rf : va_S (wAd z A oo) s.heap s.heap []) (fun _ _ h => Or.inl h) (fun _ h => Or.inl h) (fun c0 ce q9 t locs hT hz hk hS e1 e2 e3 => ?_) (fun c0 t locs hT hz hk hS => ?_)
  · have hO : va_P D vwC (oW cs oo g) t.heap := p_keep hO (fun i q hq => by match i, hq with | 0, hq => (cases hq; exact ho) | i + 1, hq => simp [oW] at hq) hk
    rcases hc with hc | hc
    · exact absurd hc c0
    · refine vx_catch (own := RL) (name := "java/lang/IllegalArgumentException") (E := "java/lang/IllegalArgumentException") hown [] ⟨0, 9, 12, 13⟩ [] htab (fun x h => absurd h List.not_mem_nil) (by decide) (by decide) (hts _ w_cl_L_13) (va_Nw.use rfl (hXE.2.1 _ x_mem1)) e1 e2 (wcl e3 hc rfl) ?_
      refine lv_astore_n (lv' := [(3, .ref q9), (0, .ref (z 0)), (1, .int p1), (2, .ref oo)]) hx hb dL_run_12 rfl hl (by decide) rfl (fun ls hl => ?_)
      refine lv_iconst (v := 1) hx hb dL_run_13 (by decide) ?_
      exact W.iret (v := 1) hx hb hr (fun t ht hW => ⟨⟨1, (v.2.2, g), rfl, by rw [wr_1 (v := v) c0 hc]; exact ⟨rfl, rfl⟩, by rw [ht]; exact hT, pw ht hO⟩, hS.F ht⟩) hS.2.2 dL_run_14 (hlocks := hlocks)
  · have hO : va_P D vwC (oW cs oo g) t.heap := p_keep hO (fun i q hq => by match i, hq with | 0, hq => (cases hq; exact ho) | i + 1, hq => simp [oW] at hq) hk
    refine lv_i2l hx hb dL_run_7 rfl ?_
    refine va_last (D := D) (ws := oW cs oo g ++ (zW cs z A v.2.2.2 ++ alW cs A v.2.2.1 19)) hx hb hK (hO.app (ts_all hT)) (o_D cs g v.2.2.1 v.2.2.2 hd ho) hS 0 4 rfl rfl (by unfold vp_in; decide) dL_run_8 (fun H locs hP _ hS => ?_)
    have hP : va_P D vwC (oW cs oo (vp_updL g (0 : Int32).toNatClampNeg v.2.1.toInt64) ++ (zW cs z A v.2.2.2 ++ alW cs A v.2.2.1 19)) H := hP
    have hT := ts_of_all (p_r hP)
    refine lv_goto (tgt := 15) hx hb dL_run_9 (by decide) ?_
    refine lv_iconst (v := 0) hx hb dL_run_15 (by decide) ?_
    exact W.iret (v := 0) hx hb hr (fun t ht hW => ⟨⟨0, (v.2.2, _), rfl, by rw [wr_0 (v := v) c0]; exact ⟨rfl, rfl⟩, by rw [ht]; exact hT, pw ht (p_l hP)⟩, hS.F ht⟩) hS.2.2 dL_run_16 (hlocks := hlocks)
theorem hd_L_runScript : yL_runScript.cls ≠ "java/lang/invoke/MethodHandle" ∧ yL_runScript.cls ≠ "java/lang/invoke/VarHandle" ∧ (parseMethodDescriptor yL_runScript.desc).map (fun d => d.parameters.length) = some 4 := by decide +kernel
theorem w_co_L_runScript : (.codeWith yL_runScript cL_runScript 6 (some .int) [(0, 11, 14, 13)] : Cond) ∈ GL := gl (tb5 (List.mem_of_getElem? (i := 126) (by decide +kernel))) (by decide +kernel)
def sL_runScript (Os : Nat → OF) (T : OF) (g : Nat → Int64) (p1 : Int32) (p2 : Int64) : Int32 × TSt × (Nat → Int64) := wr [1] (sX7_runScript Os T p1 p2) g
set_option maxHeartbeats 4000000 in
set_option maxRecDepth 100000 in
theorem c_L_runScript (l : Launch) (D : va_G) (cs : Nat → ClassId) (z : Nat → Nat) (A : Nat → Nat → Nat) (adK adV : Nat → Nat) (oo : Nat) (Os : Nat → OF) (T : OF) (g : Nat → Int64) (p1 : Int32) (p2 : Int64) (hd : tD z A) (ho : ¬ tA z A oo) (hlst : l.stackTraces = false)  (hc : (sX7_runScript Os T p1 p2).1 = 0 ∨ (sX7_runScript Os T p1 p2).1 = 1) : Met l yL_runScript (.codeWith yL_runScript cL_runScript 6 (some .int) [(0, 11, 14, 13)] :: GL) ({ frames := 8, cells := 1, slots := 6, locals := 184 } : Room) (va_Pc [.ref (z 0), .int p1, .long p2, .ref oo] (LWE D cs z A adK adV oo Os T g)) (va_Qi (fun (r9 : Int32) (u : TSt × (Nat → Int64)) => r9 = (sL_runScript Os T g p1 p2).1 ∧ u = (sL_runScript Os T g p1 p2).2) (fun u t => tsP D cs z A u.1.1 u.1.2 t.heap ∧ va_P D vwC (oW cs oo u.2) t.heap) (wAd z A oo)) 1 6 (wAd z A oo) := by
  refine met_h (lv := [(0, .ref (z 0)), (1, .int p1), (2, .long p2), (4, .ref oo)]) (by decide) (Nat.le_of_ble_eq_true rfl) rfl ?_
  intro p e s m args below meth c ls hx hb hr hml hts hown hlocks htab hB0 hl
  obtain ⟨⟨⟨⟨hT, hE⟩, hXE⟩, hO⟩, hN⟩ := hB0
  have hown : s.vm.findClass RL = some m.cls := hown
  have hK := hE.1
  unfold sL_runScript
  refine lv_aload hx hb dL_runScript_0 (lv_at hl 3 rfl) ?_
  refine lv_iconst (v := 0) hx hb dL_runScript_2 (by decide) ?_
  refine lv_aload_n hx hb dL_runScript_3 rfl (lv_at hl 0 rfl) ?_
  refine lv_iload_n hx hb dL_runScript_4 rfl (lv_at hl 1 rfl) ?_
  refine lv_lload_n hx hb dL_runScript_5 rfl (lv_at hl 2 rfl) ?_
  obtain ⟨v, hv⟩ : ∃ v, (sX7_runScript Os T p1 p2) = v := ⟨_, rfl⟩
  have k0 := c_X7_runScript l D cs z A adK adV Os T p1 p2 hd hlst
  rw [hv] at k0 hc ⊢
  refine x_w v (vx_runV (As := [.int p1, .long p2]) (rest := [.int 0, .ref oo]) ⟨hx, hb, hml, hown, hts⟩ k0 (cwV 2 hts (good_V w_ml_L_94 w_im_X7_runScript w_se_X7_runScript w_in_X7 w_co_X7_runScript) rfl rfl rfl ⟨rfl, hd_X7_runScript⟩ ⟨Nat.le_of_ble_eq_true rfl, Nat.le_of_ble_eq_true rfl⟩) (te_V (C := RX7) (T9 := TX7) (N := 5) (ci := 7) (q0 := 0) hT hE hXE va_S.rf rfl rfl) rfl rfl hl.1 rfl (lv_room (Nat.le_of_ble_eq_true rfl)) dL_runScript_6 ⟨Nat.le_of_ble_eq_true rfl, Nat.le_of_ble_eq_true rfl⟩) (va_S.rf : va_S (wAd z A oo) s.heap s.heap []) (fun _ _ h => Or.inl h) (fun _ h => Or.inl h) (fun c0 ce q9 t locs hT hz hk hS e1 e2 e3 => ?_) (fun c0 t locs hT hz hk hS => ?_)
  · have hO : va_P D vwC (oW cs oo g) t.heap := p_keep hO (fun i q hq => by match i, hq with | 0, hq => (cases hq; exact ho) | i + 1, hq => simp [oW] at hq) hk
    rcases hc with hc | hc
    · exact absurd hc c0
    · refine vx_catch (own := RL) (name := "java/lang/IllegalArgumentException") (E := "java/lang/IllegalArgumentException") hown [] ⟨0, 11, 14, 13⟩ [] htab (fun x h => absurd h List.not_mem_nil) (by decide) (by decide) (hts _ w_cl_L_13) (va_Nw.use rfl (hXE.2.1 _ x_mem1)) e1 e2 (wcl e3 hc rfl) ?_
      refine lv_astore (lv' := [(5, .ref q9), (0, .ref (z 0)), (1, .int p1), (2, .long p2), (4, .ref oo)]) hx hb dL_runScript_14 hl (by decide) rfl (fun ls hl => ?_)
      refine lv_iconst (v := 1) hx hb dL_runScript_16 (by decide) ?_
      exact W.iret (v := 1) hx hb hr (fun t ht hW => ⟨⟨1, (v.2.2, g), rfl, by rw [wr_1 (v := v) c0 hc]; exact ⟨rfl, rfl⟩, by rw [ht]; exact hT, pw ht hO⟩, hS.F ht⟩) hS.2.2 dL_runScript_17 (hlocks := hlocks)
  · have hO : va_P D vwC (oW cs oo g) t.heap := p_keep hO (fun i q hq => by match i, hq with | 0, hq => (cases hq; exact ho) | i + 1, hq => simp [oW] at hq) hk
    refine lv_i2l hx hb dL_runScript_9 rfl ?_
    refine va_last (D := D) (ws := oW cs oo g ++ (zW cs z A v.2.2.2 ++ alW cs A v.2.2.1 19)) hx hb hK (hO.app (ts_all hT)) (o_D cs g v.2.2.1 v.2.2.2 hd ho) hS 0 4 rfl rfl (by unfold vp_in; decide) dL_runScript_10 (fun H locs hP _ hS => ?_)
    have hP : va_P D vwC (oW cs oo (vp_updL g (0 : Int32).toNatClampNeg v.2.1.toInt64) ++ (zW cs z A v.2.2.2 ++ alW cs A v.2.2.1 19)) H := hP
    have hT := ts_of_all (p_r hP)
    refine lv_goto (tgt := 18) hx hb dL_runScript_11 (by decide) ?_
    refine lv_iconst (v := 0) hx hb dL_runScript_18 (by decide) ?_
    exact W.iret (v := 0) hx hb hr (fun t ht hW => ⟨⟨0, (v.2.2, _), rfl, by rw [wr_0 (v := v) c0]; exact ⟨rfl, rfl⟩, by rw [ht]; exact hT, pw ht (p_l hP)⟩, hS.F ht⟩) hS.2.2 dL_runScript_19 (hlocks := hlocks)
theorem hd_L_save : yL_save.cls ≠ "java/lang/invoke/MethodHandle" ∧ yL_save.cls ≠ "java/lang/invoke/VarHandle" ∧ (parseMethodDescriptor yL_save.desc).map (fun d => d.parameters.length) = some 3 := by decide +kernel
theorem w_co_L_save : (.codeWith yL_save cL_save 4 (some .int) [(0, 9, 12, 28)] : Cond) ∈ GL := gl (tb5 (List.mem_of_getElem? (i := 160) (by decide +kernel))) (by decide +kernel)
def sL_save (Os : Nat → OF) (T : OF) (g : Nat → Int64) (p1 : Int32) : Int32 × TSt × (Nat → Int64) := wr [3] (sX7_save Os T p1) g
set_option maxHeartbeats 4000000 in
set_option maxRecDepth 100000 in
theorem c_L_save (l : Launch) (D : va_G) (cs : Nat → ClassId) (z : Nat → Nat) (A : Nat → Nat → Nat) (adK adV : Nat → Nat) (oo : Nat) (Os : Nat → OF) (T : OF) (g : Nat → Int64) (p1 : Int32) (hd : tD z A) (ho : ¬ tA z A oo) (hlst : l.stackTraces = false)  (hc : (sX7_save Os T p1).1 = 0 ∨ (sX7_save Os T p1).1 = 3) : Met l yL_save (.codeWith yL_save cL_save 4 (some .int) [(0, 9, 12, 28)] :: GL) ({ frames := 7, cells := 1, slots := 6, locals := 154 } : Room) (va_Pc [.ref (z 0), .int p1, .ref oo] (LWE D cs z A adK adV oo Os T g)) (va_Qi (fun (r9 : Int32) (u : TSt × (Nat → Int64)) => r9 = (sL_save Os T g p1).1 ∧ u = (sL_save Os T g p1).2) (fun u t => tsP D cs z A u.1.1 u.1.2 t.heap ∧ va_P D vwC (oW cs oo u.2) t.heap) (wAd z A oo)) 1 6 (wAd z A oo) := by
  refine met_h (lv := [(0, .ref (z 0)), (1, .int p1), (2, .ref oo)]) (by decide) (Nat.le_of_ble_eq_true rfl) rfl ?_
  intro p e s m args below meth c ls hx hb hr hml hts hown hlocks htab hB0 hl
  obtain ⟨⟨⟨⟨hT, hE⟩, hXE⟩, hO⟩, hN⟩ := hB0
  have hown : s.vm.findClass RL = some m.cls := hown
  have hK := hE.1
  unfold sL_save
  refine lv_aload_n hx hb dL_save_0 rfl (lv_at hl 2 rfl) ?_
  refine lv_iconst (v := 0) hx hb dL_save_1 (by decide) ?_
  refine lv_aload_n hx hb dL_save_2 rfl (lv_at hl 0 rfl) ?_
  refine lv_iload_n hx hb dL_save_3 rfl (lv_at hl 1 rfl) ?_
  obtain ⟨v, hv⟩ : ∃ v, (sX7_save Os T p1) = v := ⟨_, rfl⟩
  have k0 := c_X7_save l D cs z A adK adV Os T p1 hd hlst
  rw [hv] at k0 hc ⊢
  refine x_w v (vx_runV (As := [.int p1]) (rest := [.int 0, .ref oo]) ⟨hx, hb, hml, hown, hts⟩ k0 (cwV 1 hts (good_V w_ml_L_102 w_im_X7_save w_se_X7_save w_in_X7 w_co_X7_save) rfl rfl rfl ⟨rfl, hd_X7_save⟩ ⟨Nat.le_of_ble_eq_true rfl, Nat.le_of_ble_eq_true rfl⟩) (te_V (C := RX7) (T9 := TX7) (N := 5) (ci := 7) (q0 := 0) hT hE hXE va_S.rf rfl rfl) rfl rfl hl.1 rfl (lv_room (Nat.le_of_ble_eq_true rfl)) dL_save_4 ⟨Nat.le_of_ble_eq_true rfl, Nat.le_of_ble_eq_true rfl⟩) (va_S.rf : va_S (wAd z A oo) s.heap s.heap []) (fun _ _ h => Or.inl h) (fun _ h => Or.inl h) (fun c0 ce q9 t locs hT hz hk hS e1 e2 e3 => ?_) (fun c0 t locs hT hz hk hS => ?_)
  · have hO : va_P D vwC (oW cs oo g) t.heap := p_keep hO (fun i q hq => by match i, hq with | 0, hq => (cases hq; exact ho) | i + 1, hq => simp [oW] at hq) hk
    rcases hc with hc | hc
    · exact absurd hc c0
    · refine vx_catch (own := RL) (name := "java/lang/IndexOutOfBoundsException") (E := "java/lang/IndexOutOfBoundsException") hown [] ⟨0, 9, 12, 28⟩ [] htab (fun x h => absurd h List.not_mem_nil) (by decide) (by decide) (hts _ w_cl_L_28) (va_Nw.use rfl (hXE.2.1 _ x_mem3)) e1 e2 (wcl e3 hc rfl) ?_
      refine lv_astore_n (lv' := [(3, .ref q9), (0, .ref (z 0)), (1, .int p1), (2, .ref oo)]) hx hb dL_save_12 rfl hl (by decide) rfl (fun ls hl => ?_)
      refine lv_iconst (v := 1) hx hb dL_save_13 (by decide) ?_
      exact W.iret (v := 1) hx hb hr (fun t ht hW => ⟨⟨1, (v.2.2, g), rfl, by rw [wr_1 (v := v) c0 hc]; exact ⟨rfl, rfl⟩, by rw [ht]; exact hT, pw ht hO⟩, hS.F ht⟩) hS.2.2 dL_save_14 (hlocks := hlocks)
  · have hO : va_P D vwC (oW cs oo g) t.heap := p_keep hO (fun i q hq => by match i, hq with | 0, hq => (cases hq; exact ho) | i + 1, hq => simp [oW] at hq) hk
    refine lv_i2l hx hb dL_save_7 rfl ?_
    refine va_last (D := D) (ws := oW cs oo g ++ (zW cs z A v.2.2.2 ++ alW cs A v.2.2.1 19)) hx hb hK (hO.app (ts_all hT)) (o_D cs g v.2.2.1 v.2.2.2 hd ho) hS 0 4 rfl rfl (by unfold vp_in; decide) dL_save_8 (fun H locs hP _ hS => ?_)
    have hP : va_P D vwC (oW cs oo (vp_updL g (0 : Int32).toNatClampNeg v.2.1.toInt64) ++ (zW cs z A v.2.2.2 ++ alW cs A v.2.2.1 19)) H := hP
    have hT := ts_of_all (p_r hP)
    refine lv_goto (tgt := 15) hx hb dL_save_9 (by decide) ?_
    refine lv_iconst (v := 0) hx hb dL_save_15 (by decide) ?_
    exact W.iret (v := 0) hx hb hr (fun t ht hW => ⟨⟨0, (v.2.2, _), rfl, by rw [wr_0 (v := v) c0]; exact ⟨rfl, rfl⟩, by rw [ht]; exact hT, pw ht (p_l hP)⟩, hS.F ht⟩) hS.2.2 dL_save_16 (hlocks := hlocks)
theorem hd_L_set : yL_set.cls ≠ "java/lang/invoke/MethodHandle" ∧ yL_set.cls ≠ "java/lang/invoke/VarHandle" ∧ (parseMethodDescriptor yL_set.desc).map (fun d => d.parameters.length) = some 4 := by decide +kernel
theorem w_co_L_set : (.codeWith yL_set cL_set 5 (some .int) [(0, 10, 13, 13)] : Cond) ∈ GL := gl (tb5 (List.mem_of_getElem? (i := 21) (by decide +kernel))) (by decide +kernel)
def sL_set (Os : Nat → OF) (T : OF) (g : Nat → Int64) (p1 : Int32) (p2 : Int32) : Int32 × TSt × (Nat → Int64) := wr [1] (sX7_set Os T p1 p2) g
set_option maxHeartbeats 4000000 in
set_option maxRecDepth 100000 in
theorem c_L_set (l : Launch) (D : va_G) (cs : Nat → ClassId) (z : Nat → Nat) (A : Nat → Nat → Nat) (adK adV : Nat → Nat) (oo : Nat) (Os : Nat → OF) (T : OF) (g : Nat → Int64) (p1 : Int32) (p2 : Int32) (hd : tD z A) (ho : ¬ tA z A oo) (hlst : l.stackTraces = false) (hn : vp_in (T.1 4) 15) (hc : (sX7_set Os T p1 p2).1 = 0 ∨ (sX7_set Os T p1 p2).1 = 1) : Met l yL_set (.codeWith yL_set cL_set 5 (some .int) [(0, 10, 13, 13)] :: GL) ({ frames := 8, cells := 1, slots := 6, locals := 154 } : Room) (va_Pc [.ref (z 0), .int p1, .int p2, .ref oo] (LWE D cs z A adK adV oo Os T g)) (va_Qi (fun (r9 : Int32) (u : TSt × (Nat → Int64)) => r9 = (sL_set Os T g p1 p2).1 ∧ u = (sL_set Os T g p1 p2).2) (fun u t => tsP D cs z A u.1.1 u.1.2 t.heap ∧ va_P D vwC (oW cs oo u.2) t.heap) (wAd z A oo)) 1 6 (wAd z A oo) := by
  refine met_h (lv := [(0, .ref (z 0)), (1, .int p1), (2, .int p2), (3, .ref oo)]) (by decide) (Nat.le_of_ble_eq_true rfl) rfl ?_
  intro p e s m args below meth c ls hx hb hr hml hts hown hlocks htab hB0 hl
  obtain ⟨⟨⟨⟨hT, hE⟩, hXE⟩, hO⟩, hN⟩ := hB0
  have hown : s.vm.findClass RL = some m.cls := hown
  have hK := hE.1
  unfold sL_set
  refine lv_aload_n hx hb dL_set_0 rfl (lv_at hl 3 rfl) ?_
  refine lv_iconst (v := 0) hx hb dL_set_1 (by decide) ?_
  refine lv_aload_n hx hb dL_set_2 rfl (lv_at hl 0 rfl) ?_
  refine lv_iload_n hx hb dL_set_3 rfl (lv_at hl 1 rfl) ?_
  refine lv_iload_n hx hb dL_set_4 rfl (lv_at hl 2 rfl) ?_
  obtain ⟨v, hv⟩ : ∃ v, (sX7_set Os T p1 p2) = v := ⟨_, rfl⟩
  have k0 := c_X7_set l D cs z A adK adV Os T p1 p2 hd hlst hn
  rw [hv] at k0 hc ⊢
  refine x_w v (vx_runV (As := [.int p1, .int p2]) (rest := [.int 0, .ref oo]) ⟨hx, hb, hml, hown, hts⟩ k0 (cwV 2 hts (good_V w_ml_L_72 w_im_X7_set w_se_X7_set w_in_X7 w_co_X7_set) rfl rfl rfl ⟨rfl, hd_X7_set⟩ ⟨Nat.le_of_ble_eq_true rfl, Nat.le_of_ble_eq_true rfl⟩) (te_V (C := RX7) (T9 := TX7) (N := 5) (ci := 7) (q0 := 0) hT hE hXE va_S.rf rfl rfl) rfl rfl hl.1 rfl (lv_room (Nat.le_of_ble_eq_true rfl)) dL_set_5 ⟨Nat.le_of_ble_eq_true rfl, Nat.le_of_ble_eq_true rfl⟩) (va_S.rf : va_S (wAd z A oo) s.heap s.heap []) (fun _ _ h => Or.inl h) (fun _ h => Or.inl h) (fun c0 ce q9 t locs hT hz hk hS e1 e2 e3 => ?_) (fun c0 t locs hT hz hk hS => ?_)
  · have hO : va_P D vwC (oW cs oo g) t.heap := p_keep hO (fun i q hq => by match i, hq with | 0, hq => (cases hq; exact ho) | i + 1, hq => simp [oW] at hq) hk
    rcases hc with hc | hc
    · exact absurd hc c0
    · refine vx_catch (own := RL) (name := "java/lang/IllegalArgumentException") (E := "java/lang/IllegalArgumentException") hown [] ⟨0, 10, 13, 13⟩ [] htab (fun x h => absurd h List.not_mem_nil) (by decide) (by decide) (hts _ w_cl_L_13) (va_Nw.use rfl (hXE.2.1 _ x_mem1)) e1 e2 (wcl e3 hc rfl) ?_
      refine lv_astore (lv' := [(4, .ref q9), (0, .ref (z 0)), (1, .int p1), (2, .int p2), (3, .ref oo)]) hx hb dL_set_13 hl (by decide) rfl (fun ls hl => ?_)
      refine lv_iconst (v := 1) hx hb dL_set_15 (by decide) ?_
      exact W.iret (v := 1) hx hb hr (fun t ht hW => ⟨⟨1, (v.2.2, g), rfl, by rw [wr_1 (v := v) c0 hc]; exact ⟨rfl, rfl⟩, by rw [ht]; exact hT, pw ht hO⟩, hS.F ht⟩) hS.2.2 dL_set_16 (hlocks := hlocks)
  · have hO : va_P D vwC (oW cs oo g) t.heap := p_keep hO (fun i q hq => by match i, hq with | 0, hq => (cases hq; exact ho) | i + 1, hq => simp [oW] at hq) hk
    refine lv_i2l hx hb dL_set_8 rfl ?_
    refine va_last (D := D) (ws := oW cs oo g ++ (zW cs z A v.2.2.2 ++ alW cs A v.2.2.1 19)) hx hb hK (hO.app (ts_all hT)) (o_D cs g v.2.2.1 v.2.2.2 hd ho) hS 0 4 rfl rfl (by unfold vp_in; decide) dL_set_9 (fun H locs hP _ hS => ?_)
    have hP : va_P D vwC (oW cs oo (vp_updL g (0 : Int32).toNatClampNeg v.2.1.toInt64) ++ (zW cs z A v.2.2.2 ++ alW cs A v.2.2.1 19)) H := hP
    have hT := ts_of_all (p_r hP)
    refine lv_goto (tgt := 17) hx hb dL_set_10 (by decide) ?_
    refine lv_iconst (v := 0) hx hb dL_set_17 (by decide) ?_
    exact W.iret (v := 0) hx hb hr (fun t ht hW => ⟨⟨0, (v.2.2, _), rfl, by rw [wr_0 (v := v) c0]; exact ⟨rfl, rfl⟩, by rw [ht]; exact hT, pw ht (p_l hP)⟩, hS.F ht⟩) hS.2.2 dL_set_18 (hlocks := hlocks)
theorem hd_L_setting : yL_setting.cls ≠ "java/lang/invoke/MethodHandle" ∧ yL_setting.cls ≠ "java/lang/invoke/VarHandle" ∧ (parseMethodDescriptor yL_setting.desc).map (fun d => d.parameters.length) = some 3 := by decide +kernel
theorem w_co_L_setting : (.codeWith yL_setting cL_setting 4 (some .int) [(0, 9, 12, 13)] : Cond) ∈ GL := gl (tb4 (List.mem_of_getElem? (i := 109) (by decide +kernel))) (by decide +kernel)
def sL_setting (Os : Nat → OF) (T : OF) (g : Nat → Int64) (p1 : Int32) : Int32 × TSt × (Nat → Int64) := wr [1] ((sX7_setting Os T p1).1, (sX7_setting Os T p1).2, (Os, T)) g
set_option maxHeartbeats 4000000 in
set_option maxRecDepth 100000 in
theorem c_L_setting (l : Launch) (D : va_G) (cs : Nat → ClassId) (z : Nat → Nat) (A : Nat → Nat → Nat) (adK adV : Nat → Nat) (oo : Nat) (Os : Nat → OF) (T : OF) (g : Nat → Int64) (p1 : Int32) (hd : tD z A) (ho : ¬ tA z A oo) (hlst : l.stackTraces = false)  (hc : (sX7_setting Os T p1).1 = 0 ∨ (sX7_setting Os T p1).1 = 1) : Met l yL_setting (.codeWith yL_setting cL_setting 4 (some .int) [(0, 9, 12, 13)] :: GL) ({ frames := 7, cells := 1, slots := 6, locals := 103 } : Room) (va_Pc [.ref (z 0), .int p1, .ref oo] (LWE D cs z A adK adV oo Os T g)) (va_Qi (fun (r9 : Int32) (u : TSt × (Nat → Int64)) => r9 = (sL_setting Os T g p1).1 ∧ u = (sL_setting Os T g p1).2) (fun u t => tsP D cs z A u.1.1 u.1.2 t.heap ∧ va_P D vwC (oW cs oo u.2) t.heap) (wAd z A oo)) 1 6 (wAd z A oo) := by
  refine met_h (lv := [(0, .ref (z 0)), (1, .int p1), (2, .ref oo)]) (by decide) (Nat.le_of_ble_eq_true rfl) rfl ?_
  intro p e s m args below meth c ls hx hb hr hml hts hown hlocks htab hB0 hl
  obtain ⟨⟨⟨⟨hT, hE⟩, hXE⟩, hO⟩, hN⟩ := hB0
  have hown : s.vm.findClass RL = some m.cls := hown
  have hK := hE.1
  unfold sL_setting
  refine lv_aload_n hx hb dL_setting_0 rfl (lv_at hl 2 rfl) ?_
  refine lv_iconst (v := 0) hx hb dL_setting_1 (by decide) ?_
  refine lv_aload_n hx hb dL_setting_2 rfl (lv_at hl 0 rfl) ?_
  refine lv_iload_n hx hb dL_setting_3 rfl (lv_at hl 1 rfl) ?_
  obtain ⟨v, hv⟩ : ∃ v, (sX7_setting Os T p1) = v := ⟨_, rfl⟩
  have k0 := c_X7_setting l D cs z A adK adV Os T p1 hd hlst
  rw [hv] at k0 hc ⊢
  refine x_r v (vx_runV (As := [.int p1]) (rest := [.int 0, .ref oo]) ⟨hx, hb, hml, hown, hts⟩ k0 (cwV 1 hts (good_V w_ml_L_42 w_im_X7_setting w_se_X7_setting w_in_X7 w_co_X7_setting) rfl rfl rfl ⟨rfl, hd_X7_setting⟩ ⟨Nat.le_of_ble_eq_true rfl, Nat.le_of_ble_eq_true rfl⟩) (te_V (C := RX7) (T9 := TX7) (N := 5) (ci := 7) (q0 := 0) hT hE hXE va_S.rf rfl rfl) rfl rfl hl.1 rfl (lv_room (Nat.le_of_ble_eq_true rfl)) dL_setting_4 ⟨Nat.le_of_ble_eq_true rfl, Nat.le_of_ble_eq_true rfl⟩) (va_S.rf : va_S (wAd z A oo) s.heap s.heap []) (fun _ _ h => Or.inl h) (fun _ h => Or.inl h) (fun c0 ce q9 t locs hT hz hk hS e1 e2 e3 => ?_) (fun c0 t locs hT hz hk hS => ?_)
  · have hO : va_P D vwC (oW cs oo g) t.heap := p_keep hO (fun i q hq => by match i, hq with | 0, hq => (cases hq; exact ho) | i + 1, hq => simp [oW] at hq) hk
    rcases hc with hc | hc
    · exact absurd hc c0
    · refine vx_catch (own := RL) (name := "java/lang/IllegalArgumentException") (E := "java/lang/IllegalArgumentException") hown [] ⟨0, 9, 12, 13⟩ [] htab (fun x h => absurd h List.not_mem_nil) (by decide) (by decide) (hts _ w_cl_L_13) (va_Nw.use rfl (hXE.2.1 _ x_mem1)) e1 e2 (wcl e3 hc rfl) ?_
      refine lv_astore_n (lv' := [(3, .ref q9), (0, .ref (z 0)), (1, .int p1), (2, .ref oo)]) hx hb dL_setting_12 rfl hl (by decide) rfl (fun ls hl => ?_)
      refine lv_iconst (v := 1) hx hb dL_setting_13 (by decide) ?_
      exact W.iret (v := 1) hx hb hr (fun t ht hW => ⟨⟨1, ((Os, T), g), rfl, by rw [wr_1 (v := (v.1, v.2, (Os, T))) c0 hc]; exact ⟨rfl, rfl⟩, by rw [ht]; exact hT, pw ht hO⟩, hS.F ht⟩) hS.2.2 dL_setting_14 (hlocks := hlocks)
  · have hO : va_P D vwC (oW cs oo g) t.heap := p_keep hO (fun i q hq => by match i, hq with | 0, hq => (cases hq; exact ho) | i + 1, hq => simp [oW] at hq) hk
    refine lv_i2l hx hb dL_setting_7 rfl ?_
    refine va_last (D := D) (ws := oW cs oo g ++ (zW cs z A T ++ alW cs A Os 19)) hx hb hK (hO.app (ts_all hT)) (o_D cs g Os T hd ho) hS 0 4 rfl rfl (by unfold vp_in; decide) dL_setting_8 (fun H locs hP _ hS => ?_)
    have hP : va_P D vwC (oW cs oo (vp_updL g (0 : Int32).toNatClampNeg v.2.toInt64) ++ (zW cs z A T ++ alW cs A Os 19)) H := hP
    have hT := ts_of_all (p_r hP)
    refine lv_goto (tgt := 15) hx hb dL_setting_9 (by decide) ?_
    refine lv_iconst (v := 0) hx hb dL_setting_15 (by decide) ?_
    exact W.iret (v := 0) hx hb hr (fun t ht hW => ⟨⟨0, ((Os, T), _), rfl, by rw [wr_0 (v := (v.1, v.2, (Os, T))) c0]; exact ⟨rfl, rfl⟩, by rw [ht]; exact hT, pw ht (p_l hP)⟩, hS.F ht⟩) hS.2.2 dL_setting_16 (hlocks := hlocks)
theorem hd_L_sheet : yL_sheet.cls ≠ "java/lang/invoke/MethodHandle" ∧ yL_sheet.cls ≠ "java/lang/invoke/VarHandle" ∧ (parseMethodDescriptor yL_sheet.desc).map (fun d => d.parameters.length) = some 4 := by decide +kernel
theorem w_co_L_sheet : (.codeWith yL_sheet cL_sheet 5 (some .int) [(0, 10, 13, 28), (0, 10, 17, 13)] : Cond) ∈ GL := gl (tb3 (List.mem_of_getElem? (i := 225) (by decide +kernel))) (by decide +kernel)
def sL_sheet (Os : Nat → OF) (T : OF) (g : Nat → Int64) (p1 : Int32) (p2 : Int32) : Int32 × TSt × (Nat → Int64) := wr [3, 1] ((sX7_sheet Os T p1 p2).1, (sX7_sheet Os T p1 p2).2, (Os, T)) g
set_option maxHeartbeats 4000000 in
set_option maxRecDepth 100000 in
theorem c_L_sheet (l : Launch) (D : va_G) (cs : Nat → ClassId) (z : Nat → Nat) (A : Nat → Nat → Nat) (adK adV : Nat → Nat) (oo : Nat) (Os : Nat → OF) (T : OF) (g : Nat → Int64) (p1 : Int32) (p2 : Int32) (hd : tD z A) (ho : ¬ tA z A oo) (hlst : l.stackTraces = false)  (hc : (sX7_sheet Os T p1 p2).1 = 0 ∨ (sX7_sheet Os T p1 p2).1 = 3 ∨ (sX7_sheet Os T p1 p2).1 = 1) : Met l yL_sheet (.codeWith yL_sheet cL_sheet 5 (some .int) [(0, 10, 13, 28), (0, 10, 17, 13)] :: GL) ({ frames := 8, cells := 2, slots := 12, locals := 135 } : Room) (va_Pc [.ref (z 0), .int p1, .int p2, .ref oo] (LWE D cs z A adK adV oo Os T g)) (va_Qi (fun (r9 : Int32) (u : TSt × (Nat → Int64)) => r9 = (sL_sheet Os T g p1 p2).1 ∧ u = (sL_sheet Os T g p1 p2).2) (fun u t => tsP D cs z A u.1.1 u.1.2 t.heap ∧ va_P D vwC (oW cs oo u.2) t.heap) (wAd z A oo)) 2 12 (wAd z A oo) := by
  refine met_h (lv := [(0, .ref (z 0)), (1, .int p1), (2, .int p2), (3, .ref oo)]) (by decide) (Nat.le_of_ble_eq_true rfl) rfl ?_
  intro p e s m args below meth c ls hx hb hr hml hts hown hlocks htab hB0 hl
  obtain ⟨⟨⟨⟨hT, hE⟩, hXE⟩, hO⟩, hN⟩ := hB0
  have hown : s.vm.findClass RL = some m.cls := hown
  have hK := hE.1
  unfold sL_sheet
  refine lv_aload_n hx hb dL_sheet_0 rfl (lv_at hl 3 rfl) ?_
  refine lv_iconst (v := 0) hx hb dL_sheet_1 (by decide) ?_
  refine lv_aload_n hx hb dL_sheet_2 rfl (lv_at hl 0 rfl) ?_
  refine lv_iload_n hx hb dL_sheet_3 rfl (lv_at hl 1 rfl) ?_
  refine lv_iload_n hx hb dL_sheet_4 rfl (lv_at hl 2 rfl) ?_
  obtain ⟨v, hv⟩ : ∃ v, (sX7_sheet Os T p1 p2) = v := ⟨_, rfl⟩
  have k0 := c_X7_sheet l D cs z A adK adV Os T p1 p2 hd hlst
  rw [hv] at k0 hc ⊢
  refine x_r v (vx_runV (As := [.int p1, .int p2]) (rest := [.int 0, .ref oo]) ⟨hx, hb, hml, hown, hts⟩ k0 (cwV 2 hts (good_V w_ml_L_24 w_im_X7_sheet w_se_X7_sheet w_in_X7 w_co_X7_sheet) rfl rfl rfl ⟨rfl, hd_X7_sheet⟩ ⟨Nat.le_of_ble_eq_true rfl, Nat.le_of_ble_eq_true rfl⟩) (te_V (C := RX7) (T9 := TX7) (N := 5) (ci := 7) (q0 := 0) hT hE hXE va_S.rf rfl rfl) rfl rfl hl.1 rfl (lv_room (Nat.le_of_ble_eq_true rfl)) dL_sheet_5 ⟨Nat.le_of_ble_eq_true rfl, Nat.le_of_ble_eq_true rfl⟩) (va_S.rf : va_S (wAd z A oo) s.heap s.heap []) (fun _ _ h => Or.inl h) (fun _ h => Or.inl h) (fun c0 ce q9 t locs hT hz hk hS e1 e2 e3 => ?_) (fun c0 t locs hT hz hk hS => ?_)
  · have hO : va_P D vwC (oW cs oo g) t.heap := p_keep hO (fun i q hq => by match i, hq with | 0, hq => (cases hq; exact ho) | i + 1, hq => simp [oW] at hq) hk
    rcases hc with hc | hc | hc
    · exact absurd hc c0
    · refine vx_catch (own := RL) (name := "java/lang/IndexOutOfBoundsException") (E := "java/lang/IndexOutOfBoundsException") hown [] ⟨0, 10, 13, 28⟩ [⟨0, 10, 17, 13⟩] htab (fun x h => absurd h List.not_mem_nil) (by decide) (by decide) (hts _ w_cl_L_28) (va_Nw.use rfl (hXE.2.1 _ x_mem3)) e1 e2 (wcl e3 hc rfl) ?_
      refine lv_astore (lv' := [(4, .ref q9), (0, .ref (z 0)), (1, .int p1), (2, .int p2), (3, .ref oo)]) hx hb dL_sheet_13 hl (by decide) rfl (fun ls hl => ?_)
      refine lv_iconst (v := 1) hx hb dL_sheet_15 (by decide) ?_
      exact W.iret (v := 1) hx hb hr (fun t ht hW => ⟨⟨1, ((Os, T), g), rfl, by rw [wr_1 (v := (v.1, v.2, (Os, T))) c0 hc]; exact ⟨rfl, rfl⟩, by rw [ht]; exact hT, pw ht hO⟩, hS.F ht⟩) hS.2.2 dL_sheet_16 (hlocks := hlocks)
    · refine vx_catch (own := RL) (name := "java/lang/IllegalArgumentException") (E := "java/lang/IllegalArgumentException") hown [⟨0, 10, 13, 28⟩] ⟨0, 10, 17, 13⟩ [] htab (fun x hx9 => by simp only [List.mem_cons, List.not_mem_nil, or_false] at hx9; subst hx9; exact Or.inr ⟨by decide, "java/lang/IndexOutOfBoundsException", hts _ w_cl_L_28, hN.2.1⟩) (by decide) (by decide) (hts _ w_cl_L_13) (va_Nw.use rfl (hXE.2.1 _ x_mem1)) e1 e2 (wcl e3 hc rfl) ?_
      refine lv_astore (lv' := [(4, .ref q9), (0, .ref (z 0)), (1, .int p1), (2, .int p2), (3, .ref oo)]) hx hb dL_sheet_17 hl (by decide) rfl (fun ls hl => ?_)
      refine lv_iconst (v := 2) hx hb dL_sheet_19 (by decide) ?_
      exact W.iret (v := 2) hx hb hr (fun t ht hW => ⟨⟨2, ((Os, T), g), rfl, by rw [wr_1 (v := (v.1, v.2, (Os, T))) c0 hc]; exact ⟨rfl, rfl⟩, by rw [ht]; exact hT, pw ht hO⟩, hS.F ht⟩) hS.2.2 dL_sheet_20 (hlocks := hlocks)
  · have hO : va_P D vwC (oW cs oo g) t.heap := p_keep hO (fun i q hq => by match i, hq with | 0, hq => (cases hq; exact ho) | i + 1, hq => simp [oW] at hq) hk
    refine lv_i2l hx hb dL_sheet_8 rfl ?_
    refine va_last (D := D) (ws := oW cs oo g ++ (zW cs z A T ++ alW cs A Os 19)) hx hb hK (hO.app (ts_all hT)) (o_D cs g Os T hd ho) hS 0 4 rfl rfl (by unfold vp_in; decide) dL_sheet_9 (fun H locs hP _ hS => ?_)
    have hP : va_P D vwC (oW cs oo (vp_updL g (0 : Int32).toNatClampNeg v.2.toInt64) ++ (zW cs z A T ++ alW cs A Os 19)) H := hP
    have hT := ts_of_all (p_r hP)
    refine lv_goto (tgt := 21) hx hb dL_sheet_10 (by decide) ?_
    refine lv_iconst (v := 0) hx hb dL_sheet_21 (by decide) ?_
    exact W.iret (v := 0) hx hb hr (fun t ht hW => ⟨⟨0, ((Os, T), _), rfl, by rw [wr_0 (v := (v.1, v.2, (Os, T))) c0]; exact ⟨rfl, rfl⟩, by rw [ht]; exact hT, pw ht (p_l hP)⟩, hS.F ht⟩) hS.2.2 dL_sheet_22 (hlocks := hlocks)
theorem hd_L_simulate : yL_simulate.cls ≠ "java/lang/invoke/MethodHandle" ∧ yL_simulate.cls ≠ "java/lang/invoke/VarHandle" ∧ (parseMethodDescriptor yL_simulate.desc).map (fun d => d.parameters.length) = some 4 := by decide +kernel
theorem w_co_L_simulate : (.codeWith yL_simulate cL_simulate 6 (some .int) [(0, 11, 14, 13)] : Cond) ∈ GL := gl (tb5 (List.mem_of_getElem? (i := 146) (by decide +kernel))) (by decide +kernel)
def sL_simulate (Os : Nat → OF) (T : OF) (g : Nat → Int64) (p1 : Int64) (p2 : Int32) : Int32 × TSt × (Nat → Int64) := wr [1] (sX7_simulate Os T p1 p2) g
set_option maxHeartbeats 4000000 in
set_option maxRecDepth 100000 in
theorem c_L_simulate (l : Launch) (D : va_G) (cs : Nat → ClassId) (z : Nat → Nat) (A : Nat → Nat → Nat) (adK adV : Nat → Nat) (oo : Nat) (Os : Nat → OF) (T : OF) (g : Nat → Int64) (p1 : Int64) (p2 : Int32) (hd : tD z A) (ho : ¬ tA z A oo) (hlst : l.stackTraces = false)  (hc : (sX7_simulate Os T p1 p2).1 = 0 ∨ (sX7_simulate Os T p1 p2).1 = 1) : Met l yL_simulate (.codeWith yL_simulate cL_simulate 6 (some .int) [(0, 11, 14, 13)] :: GL) ({ frames := 8, cells := 1, slots := 6, locals := 178 } : Room) (va_Pc [.ref (z 0), .long p1, .int p2, .ref oo] (LWE D cs z A adK adV oo Os T g)) (va_Qi (fun (r9 : Int32) (u : TSt × (Nat → Int64)) => r9 = (sL_simulate Os T g p1 p2).1 ∧ u = (sL_simulate Os T g p1 p2).2) (fun u t => tsP D cs z A u.1.1 u.1.2 t.heap ∧ va_P D vwC (oW cs oo u.2) t.heap) (wAd z A oo)) 1 6 (wAd z A oo) := by
  refine met_h (lv := [(0, .ref (z 0)), (1, .long p1), (3, .int p2), (4, .ref oo)]) (by decide) (Nat.le_of_ble_eq_true rfl) rfl ?_
  intro p e s m args below meth c ls hx hb hr hml hts hown hlocks htab hB0 hl
  obtain ⟨⟨⟨⟨hT, hE⟩, hXE⟩, hO⟩, hN⟩ := hB0
  have hown : s.vm.findClass RL = some m.cls := hown
  have hK := hE.1
  unfold sL_simulate
  refine lv_aload hx hb dL_simulate_0 (lv_at hl 3 rfl) ?_
  refine lv_iconst (v := 0) hx hb dL_simulate_2 (by decide) ?_
  refine lv_aload_n hx hb dL_simulate_3 rfl (lv_at hl 0 rfl) ?_
  refine lv_lload_n hx hb dL_simulate_4 rfl (lv_at hl 1 rfl) ?_
  refine lv_iload_n hx hb dL_simulate_5 rfl (lv_at hl 2 rfl) ?_
  obtain ⟨v, hv⟩ : ∃ v, (sX7_simulate Os T p1 p2) = v := ⟨_, rfl⟩
  have k0 := c_X7_simulate l D cs z A adK adV Os T p1 p2 hd hlst
  rw [hv] at k0 hc ⊢
  refine x_w v (vx_runV (As := [.long p1, .int p2]) (rest := [.int 0, .ref oo]) ⟨hx, hb, hml, hown, hts⟩ k0 (cwV 2 hts (good_V w_ml_L_98 w_im_X7_simulate w_se_X7_simulate w_in_X7 w_co_X7_simulate) rfl rfl rfl ⟨rfl, hd_X7_simulate⟩ ⟨Nat.le_of_ble_eq_true rfl, Nat.le_of_ble_eq_true rfl⟩) (te_V (C := RX7) (T9 := TX7) (N := 5) (ci := 7) (q0 := 0) hT hE hXE va_S.rf rfl rfl) rfl rfl hl.1 rfl (lv_room (Nat.le_of_ble_eq_true rfl)) dL_simulate_6 ⟨Nat.le_of_ble_eq_true rfl, Nat.le_of_ble_eq_true rfl⟩) (va_S.rf : va_S (wAd z A oo) s.heap s.heap []) (fun _ _ h => Or.inl h) (fun _ h => Or.inl h) (fun c0 ce q9 t locs hT hz hk hS e1 e2 e3 => ?_) (fun c0 t locs hT hz hk hS => ?_)
  · have hO : va_P D vwC (oW cs oo g) t.heap := p_keep hO (fun i q hq => by match i, hq with | 0, hq => (cases hq; exact ho) | i + 1, hq => simp [oW] at hq) hk
    rcases hc with hc | hc
    · exact absurd hc c0
    · refine vx_catch (own := RL) (name := "java/lang/IllegalArgumentException") (E := "java/lang/IllegalArgumentException") hown [] ⟨0, 11, 14, 13⟩ [] htab (fun x h => absurd h List.not_mem_nil) (by decide) (by decide) (hts _ w_cl_L_13) (va_Nw.use rfl (hXE.2.1 _ x_mem1)) e1 e2 (wcl e3 hc rfl) ?_
      refine lv_astore (lv' := [(5, .ref q9), (0, .ref (z 0)), (1, .long p1), (3, .int p2), (4, .ref oo)]) hx hb dL_simulate_14 hl (by decide) rfl (fun ls hl => ?_)
      refine lv_iconst (v := 1) hx hb dL_simulate_16 (by decide) ?_
      exact W.iret (v := 1) hx hb hr (fun t ht hW => ⟨⟨1, (v.2.2, g), rfl, by rw [wr_1 (v := v) c0 hc]; exact ⟨rfl, rfl⟩, by rw [ht]; exact hT, pw ht hO⟩, hS.F ht⟩) hS.2.2 dL_simulate_17 (hlocks := hlocks)
  · have hO : va_P D vwC (oW cs oo g) t.heap := p_keep hO (fun i q hq => by match i, hq with | 0, hq => (cases hq; exact ho) | i + 1, hq => simp [oW] at hq) hk
    refine lv_i2l hx hb dL_simulate_9 rfl ?_
    refine va_last (D := D) (ws := oW cs oo g ++ (zW cs z A v.2.2.2 ++ alW cs A v.2.2.1 19)) hx hb hK (hO.app (ts_all hT)) (o_D cs g v.2.2.1 v.2.2.2 hd ho) hS 0 4 rfl rfl (by unfold vp_in; decide) dL_simulate_10 (fun H locs hP _ hS => ?_)
    have hP : va_P D vwC (oW cs oo (vp_updL g (0 : Int32).toNatClampNeg v.2.1.toInt64) ++ (zW cs z A v.2.2.2 ++ alW cs A v.2.2.1 19)) H := hP
    have hT := ts_of_all (p_r hP)
    refine lv_goto (tgt := 18) hx hb dL_simulate_11 (by decide) ?_
    refine lv_iconst (v := 0) hx hb dL_simulate_18 (by decide) ?_
    exact W.iret (v := 0) hx hb hr (fun t ht hW => ⟨⟨0, (v.2.2, _), rfl, by rw [wr_0 (v := v) c0]; exact ⟨rfl, rfl⟩, by rw [ht]; exact hT, pw ht (p_l hP)⟩, hS.F ht⟩) hS.2.2 dL_simulate_19 (hlocks := hlocks)
theorem hd_L_stamp : yL_stamp.cls ≠ "java/lang/invoke/MethodHandle" ∧ yL_stamp.cls ≠ "java/lang/invoke/VarHandle" ∧ (parseMethodDescriptor yL_stamp.desc).map (fun d => d.parameters.length) = some 4 := by decide +kernel
theorem w_co_L_stamp : (.codeWith yL_stamp cL_stamp 5 (some .int) [(0, 10, 13, 28), (0, 10, 17, 15)] : Cond) ∈ GL := gl (tb4 (List.mem_of_getElem? (i := 200) (by decide +kernel))) (by decide +kernel)
def sL_stamp (Os : Nat → OF) (T : OF) (g : Nat → Int64) (p1 : Int32) (p2 : Int32) : Int32 × TSt × (Nat → Int64) := wr [3, 2] (sX7_stamp Os T p1 p2) g
set_option maxHeartbeats 4000000 in
set_option maxRecDepth 100000 in
theorem c_L_stamp (l : Launch) (D : va_G) (cs : Nat → ClassId) (z : Nat → Nat) (A : Nat → Nat → Nat) (adK adV : Nat → Nat) (oo : Nat) (Os : Nat → OF) (T : OF) (g : Nat → Int64) (p1 : Int32) (p2 : Int32) (hd : tD z A) (ho : ¬ tA z A oo) (hlst : l.stackTraces = false) (hn : vp_in (T.1 4) 15) (hc : (sX7_stamp Os T p1 p2).1 = 0 ∨ (sX7_stamp Os T p1 p2).1 = 3 ∨ (sX7_stamp Os T p1 p2).1 = 2) : Met l yL_stamp (.codeWith yL_stamp cL_stamp 5 (some .int) [(0, 10, 13, 28), (0, 10, 17, 15)] :: GL) ({ frames := 8, cells := 1, slots := 6, locals := 154 } : Room) (va_Pc [.ref (z 0), .int p1, .int p2, .ref oo] (LWE D cs z A adK adV oo Os T g)) (va_Qi (fun (r9 : Int32) (u : TSt × (Nat → Int64)) => r9 = (sL_stamp Os T g p1 p2).1 ∧ u = (sL_stamp Os T g p1 p2).2) (fun u t => tsP D cs z A u.1.1 u.1.2 t.heap ∧ va_P D vwC (oW cs oo u.2) t.heap) (wAd z A oo)) 1 6 (wAd z A oo) := by
  refine met_h (lv := [(0, .ref (z 0)), (1, .int p1), (2, .int p2), (3, .ref oo)]) (by decide) (Nat.le_of_ble_eq_true rfl) rfl ?_
  intro p e s m args below meth c ls hx hb hr hml hts hown hlocks htab hB0 hl
  obtain ⟨⟨⟨⟨hT, hE⟩, hXE⟩, hO⟩, hN⟩ := hB0
  have hown : s.vm.findClass RL = some m.cls := hown
  have hK := hE.1
  unfold sL_stamp
  refine lv_aload_n hx hb dL_stamp_0 rfl (lv_at hl 3 rfl) ?_
  refine lv_iconst (v := 0) hx hb dL_stamp_1 (by decide) ?_
  refine lv_aload_n hx hb dL_stamp_2 rfl (lv_at hl 0 rfl) ?_
  refine lv_iload_n hx hb dL_stamp_3 rfl (lv_at hl 1 rfl) ?_
  refine lv_iload_n hx hb dL_stamp_4 rfl (lv_at hl 2 rfl) ?_
  obtain ⟨v, hv⟩ : ∃ v, (sX7_stamp Os T p1 p2) = v := ⟨_, rfl⟩
  have k0 := c_X7_stamp l D cs z A adK adV Os T p1 p2 hd hlst hn
  rw [hv] at k0 hc ⊢
  refine x_w v (vx_runV (As := [.int p1, .int p2]) (rest := [.int 0, .ref oo]) ⟨hx, hb, hml, hown, hts⟩ k0 (cwV 2 hts (good_V w_ml_L_57 w_im_X7_stamp w_se_X7_stamp w_in_X7 w_co_X7_stamp) rfl rfl rfl ⟨rfl, hd_X7_stamp⟩ ⟨Nat.le_of_ble_eq_true rfl, Nat.le_of_ble_eq_true rfl⟩) (te_V (C := RX7) (T9 := TX7) (N := 5) (ci := 7) (q0 := 0) hT hE hXE va_S.rf rfl rfl) rfl rfl hl.1 rfl (lv_room (Nat.le_of_ble_eq_true rfl)) dL_stamp_5 ⟨Nat.le_of_ble_eq_true rfl, Nat.le_of_ble_eq_true rfl⟩) (va_S.rf : va_S (wAd z A oo) s.heap s.heap []) (fun _ _ h => Or.inl h) (fun _ h => Or.inl h) (fun c0 ce q9 t locs hT hz hk hS e1 e2 e3 => ?_) (fun c0 t locs hT hz hk hS => ?_)
  · have hO : va_P D vwC (oW cs oo g) t.heap := p_keep hO (fun i q hq => by match i, hq with | 0, hq => (cases hq; exact ho) | i + 1, hq => simp [oW] at hq) hk
    rcases hc with hc | hc | hc
    · exact absurd hc c0
    · refine vx_catch (own := RL) (name := "java/lang/IndexOutOfBoundsException") (E := "java/lang/IndexOutOfBoundsException") hown [] ⟨0, 10, 13, 28⟩ [⟨0, 10, 17, 15⟩] htab (fun x h => absurd h List.not_mem_nil) (by decide) (by decide) (hts _ w_cl_L_28) (va_Nw.use rfl (hXE.2.1 _ x_mem3)) e1 e2 (wcl e3 hc rfl) ?_
      refine lv_astore (lv' := [(4, .ref q9), (0, .ref (z 0)), (1, .int p1), (2, .int p2), (3, .ref oo)]) hx hb dL_stamp_13 hl (by decide) rfl (fun ls hl => ?_)
      refine lv_iconst (v := 1) hx hb dL_stamp_15 (by decide) ?_
      exact W.iret (v := 1) hx hb hr (fun t ht hW => ⟨⟨1, (v.2.2, g), rfl, by rw [wr_1 (v := v) c0 hc]; exact ⟨rfl, rfl⟩, by rw [ht]; exact hT, pw ht hO⟩, hS.F ht⟩) hS.2.2 dL_stamp_16 (hlocks := hlocks)
    · refine vx_catch (own := RL) (name := "java/lang/IllegalStateException") (E := "java/lang/IllegalStateException") hown [⟨0, 10, 13, 28⟩] ⟨0, 10, 17, 15⟩ [] htab (fun x hx9 => by simp only [List.mem_cons, List.not_mem_nil, or_false] at hx9; subst hx9; exact Or.inr ⟨by decide, "java/lang/IndexOutOfBoundsException", hts _ w_cl_L_28, hN.2.2⟩) (by decide) (by decide) (hts _ w_cl_L_15) (va_Nw.use rfl (hXE.2.1 _ x_mem2)) e1 e2 (wcl e3 hc rfl) ?_
      refine lv_astore (lv' := [(4, .ref q9), (0, .ref (z 0)), (1, .int p1), (2, .int p2), (3, .ref oo)]) hx hb dL_stamp_17 hl (by decide) rfl (fun ls hl => ?_)
      refine lv_iconst (v := 2) hx hb dL_stamp_19 (by decide) ?_
      exact W.iret (v := 2) hx hb hr (fun t ht hW => ⟨⟨2, (v.2.2, g), rfl, by rw [wr_1 (v := v) c0 hc]; exact ⟨rfl, rfl⟩, by rw [ht]; exact hT, pw ht hO⟩, hS.F ht⟩) hS.2.2 dL_stamp_20 (hlocks := hlocks)
  · have hO : va_P D vwC (oW cs oo g) t.heap := p_keep hO (fun i q hq => by match i, hq with | 0, hq => (cases hq; exact ho) | i + 1, hq => simp [oW] at hq) hk
    refine lv_i2l hx hb dL_stamp_8 rfl ?_
    refine va_last (D := D) (ws := oW cs oo g ++ (zW cs z A v.2.2.2 ++ alW cs A v.2.2.1 19)) hx hb hK (hO.app (ts_all hT)) (o_D cs g v.2.2.1 v.2.2.2 hd ho) hS 0 4 rfl rfl (by unfold vp_in; decide) dL_stamp_9 (fun H locs hP _ hS => ?_)
    have hP : va_P D vwC (oW cs oo (vp_updL g (0 : Int32).toNatClampNeg v.2.1.toInt64) ++ (zW cs z A v.2.2.2 ++ alW cs A v.2.2.1 19)) H := hP
    have hT := ts_of_all (p_r hP)
    refine lv_goto (tgt := 21) hx hb dL_stamp_10 (by decide) ?_
    refine lv_iconst (v := 0) hx hb dL_stamp_21 (by decide) ?_
    exact W.iret (v := 0) hx hb hr (fun t ht hW => ⟨⟨0, (v.2.2, _), rfl, by rw [wr_0 (v := v) c0]; exact ⟨rfl, rfl⟩, by rw [ht]; exact hT, pw ht (p_l hP)⟩, hS.F ht⟩) hS.2.2 dL_stamp_22 (hlocks := hlocks)
theorem hd_L_truePrint : yL_truePrint.cls ≠ "java/lang/invoke/MethodHandle" ∧ yL_truePrint.cls ≠ "java/lang/invoke/VarHandle" ∧ (parseMethodDescriptor yL_truePrint.desc).map (fun d => d.parameters.length) = some 4 := by decide +kernel
theorem w_co_L_truePrint : (.codeWith yL_truePrint cL_truePrint 5 (some .int) [(0, 10, 13, 28)] : Cond) ∈ GL := gl (tb5 (List.mem_of_getElem? (i := 51) (by decide +kernel))) (by decide +kernel)
def sL_truePrint (Os : Nat → OF) (T : OF) (g : Nat → Int64) (p1 : Int32) (p2 : Int32) : Int32 × TSt × (Nat → Int64) := wr [3] ((sX7_truePrint Os T p1 p2).1, (sX7_truePrint Os T p1 p2).2, (Os, T)) g
set_option maxHeartbeats 4000000 in
set_option maxRecDepth 100000 in
theorem c_L_truePrint (l : Launch) (D : va_G) (cs : Nat → ClassId) (z : Nat → Nat) (A : Nat → Nat → Nat) (adK adV : Nat → Nat) (oo : Nat) (Os : Nat → OF) (T : OF) (g : Nat → Int64) (p1 : Int32) (p2 : Int32) (hd : tD z A) (ho : ¬ tA z A oo) (hlst : l.stackTraces = false)  (hc : (sX7_truePrint Os T p1 p2).1 = 0 ∨ (sX7_truePrint Os T p1 p2).1 = 3) : Met l yL_truePrint (.codeWith yL_truePrint cL_truePrint 5 (some .int) [(0, 10, 13, 28)] :: GL) ({ frames := 8, cells := 1, slots := 6, locals := 129 } : Room) (va_Pc [.ref (z 0), .int p1, .int p2, .ref oo] (LWE D cs z A adK adV oo Os T g)) (va_Qi (fun (r9 : Int32) (u : TSt × (Nat → Int64)) => r9 = (sL_truePrint Os T g p1 p2).1 ∧ u = (sL_truePrint Os T g p1 p2).2) (fun u t => tsP D cs z A u.1.1 u.1.2 t.heap ∧ va_P D vwC (oW cs oo u.2) t.heap) (wAd z A oo)) 1 6 (wAd z A oo) := by
  refine met_h (lv := [(0, .ref (z 0)), (1, .int p1), (2, .int p2), (3, .ref oo)]) (by decide) (Nat.le_of_ble_eq_true rfl) rfl ?_
  intro p e s m args below meth c ls hx hb hr hml hts hown hlocks htab hB0 hl
  obtain ⟨⟨⟨⟨hT, hE⟩, hXE⟩, hO⟩, hN⟩ := hB0
  have hown : s.vm.findClass RL = some m.cls := hown
  have hK := hE.1
  unfold sL_truePrint
  refine lv_aload_n hx hb dL_truePrint_0 rfl (lv_at hl 3 rfl) ?_
  refine lv_iconst (v := 0) hx hb dL_truePrint_1 (by decide) ?_
  refine lv_aload_n hx hb dL_truePrint_2 rfl (lv_at hl 0 rfl) ?_
  refine lv_iload_n hx hb dL_truePrint_3 rfl (lv_at hl 1 rfl) ?_
  refine lv_iload_n hx hb dL_truePrint_4 rfl (lv_at hl 2 rfl) ?_
  obtain ⟨v, hv⟩ : ∃ v, (sX7_truePrint Os T p1 p2) = v := ⟨_, rfl⟩
  have k0 := c_X7_truePrint l D cs z A adK adV Os T p1 p2 hd hlst
  rw [hv] at k0 hc ⊢
  refine x_r v (vx_runV (As := [.int p1, .int p2]) (rest := [.int 0, .ref oo]) ⟨hx, hb, hml, hown, hts⟩ k0 (cwV 2 hts (good_V w_ml_L_78 w_im_X7_truePrint w_se_X7_truePrint w_in_X7 w_co_X7_truePrint) rfl rfl rfl ⟨rfl, hd_X7_truePrint⟩ ⟨Nat.le_of_ble_eq_true rfl, Nat.le_of_ble_eq_true rfl⟩) (te_V (C := RX7) (T9 := TX7) (N := 5) (ci := 7) (q0 := 0) hT hE hXE va_S.rf rfl rfl) rfl rfl hl.1 rfl (lv_room (Nat.le_of_ble_eq_true rfl)) dL_truePrint_5 ⟨Nat.le_of_ble_eq_true rfl, Nat.le_of_ble_eq_true rfl⟩) (va_S.rf : va_S (wAd z A oo) s.heap s.heap []) (fun _ _ h => Or.inl h) (fun _ h => Or.inl h) (fun c0 ce q9 t locs hT hz hk hS e1 e2 e3 => ?_) (fun c0 t locs hT hz hk hS => ?_)
  · have hO : va_P D vwC (oW cs oo g) t.heap := p_keep hO (fun i q hq => by match i, hq with | 0, hq => (cases hq; exact ho) | i + 1, hq => simp [oW] at hq) hk
    rcases hc with hc | hc
    · exact absurd hc c0
    · refine vx_catch (own := RL) (name := "java/lang/IndexOutOfBoundsException") (E := "java/lang/IndexOutOfBoundsException") hown [] ⟨0, 10, 13, 28⟩ [] htab (fun x h => absurd h List.not_mem_nil) (by decide) (by decide) (hts _ w_cl_L_28) (va_Nw.use rfl (hXE.2.1 _ x_mem3)) e1 e2 (wcl e3 hc rfl) ?_
      refine lv_astore (lv' := [(4, .ref q9), (0, .ref (z 0)), (1, .int p1), (2, .int p2), (3, .ref oo)]) hx hb dL_truePrint_13 hl (by decide) rfl (fun ls hl => ?_)
      refine lv_iconst (v := 1) hx hb dL_truePrint_15 (by decide) ?_
      exact W.iret (v := 1) hx hb hr (fun t ht hW => ⟨⟨1, ((Os, T), g), rfl, by rw [wr_1 (v := (v.1, v.2, (Os, T))) c0 hc]; exact ⟨rfl, rfl⟩, by rw [ht]; exact hT, pw ht hO⟩, hS.F ht⟩) hS.2.2 dL_truePrint_16 (hlocks := hlocks)
  · have hO : va_P D vwC (oW cs oo g) t.heap := p_keep hO (fun i q hq => by match i, hq with | 0, hq => (cases hq; exact ho) | i + 1, hq => simp [oW] at hq) hk
    refine lv_i2l hx hb dL_truePrint_8 rfl ?_
    refine va_last (D := D) (ws := oW cs oo g ++ (zW cs z A T ++ alW cs A Os 19)) hx hb hK (hO.app (ts_all hT)) (o_D cs g Os T hd ho) hS 0 4 rfl rfl (by unfold vp_in; decide) dL_truePrint_9 (fun H locs hP _ hS => ?_)
    have hP : va_P D vwC (oW cs oo (vp_updL g (0 : Int32).toNatClampNeg v.2.toInt64) ++ (zW cs z A T ++ alW cs A Os 19)) H := hP
    have hT := ts_of_all (p_r hP)
    refine lv_goto (tgt := 17) hx hb dL_truePrint_10 (by decide) ?_
    refine lv_iconst (v := 0) hx hb dL_truePrint_17 (by decide) ?_
    exact W.iret (v := 0) hx hb hr (fun t ht hW => ⟨⟨0, ((Os, T), _), rfl, by rw [wr_0 (v := (v.1, v.2, (Os, T))) c0]; exact ⟨rfl, rfl⟩, by rw [ht]; exact hT, pw ht (p_l hP)⟩, hS.F ht⟩) hS.2.2 dL_truePrint_18 (hlocks := hlocks)
theorem hd_L_undo : yL_undo.cls ≠ "java/lang/invoke/MethodHandle" ∧ yL_undo.cls ≠ "java/lang/invoke/VarHandle" ∧ (parseMethodDescriptor yL_undo.desc).map (fun d => d.parameters.length) = some 2 := by decide +kernel
theorem w_co_L_undo : (.codeWith yL_undo cL_undo 3 (some .int) [(0, 8, 11, 15)] : Cond) ∈ GL := gl (tb5 (List.mem_of_getElem? (i := 35) (by decide +kernel))) (by decide +kernel)
def sL_undo (Os : Nat → OF) (T : OF) (g : Nat → Int64)  : Int32 × TSt × (Nat → Int64) := wr [2] (sX7_undo Os T) g
set_option maxHeartbeats 4000000 in
set_option maxRecDepth 100000 in
theorem c_L_undo (l : Launch) (D : va_G) (cs : Nat → ClassId) (z : Nat → Nat) (A : Nat → Nat → Nat) (adK adV : Nat → Nat) (oo : Nat) (Os : Nat → OF) (T : OF) (g : Nat → Int64)  (hd : tD z A) (ho : ¬ tA z A oo) (hlst : l.stackTraces = false) (hn : vp_in (T.1 4) 15) (hc : (sX7_undo Os T).1 = 0 ∨ (sX7_undo Os T).1 = 2) : Met l yL_undo (.codeWith yL_undo cL_undo 3 (some .int) [(0, 8, 11, 15)] :: GL) ({ frames := 7, cells := 1, slots := 6, locals := 152 } : Room) (va_Pc [.ref (z 0), .ref oo] (LWE D cs z A adK adV oo Os T g)) (va_Qi (fun (r9 : Int32) (u : TSt × (Nat → Int64)) => r9 = (sL_undo Os T g).1 ∧ u = (sL_undo Os T g).2) (fun u t => tsP D cs z A u.1.1 u.1.2 t.heap ∧ va_P D vwC (oW cs oo u.2) t.heap) (wAd z A oo)) 1 6 (wAd z A oo) := by
  refine met_h (lv := [(0, .ref (z 0)), (1, .ref oo)]) (by decide) (Nat.le_of_ble_eq_true rfl) rfl ?_
  intro p e s m args below meth c ls hx hb hr hml hts hown hlocks htab hB0 hl
  obtain ⟨⟨⟨⟨hT, hE⟩, hXE⟩, hO⟩, hN⟩ := hB0
  have hown : s.vm.findClass RL = some m.cls := hown
  have hK := hE.1
  unfold sL_undo
  refine lv_aload_n hx hb dL_undo_0 rfl (lv_at hl 1 rfl) ?_
  refine lv_iconst (v := 0) hx hb dL_undo_1 (by decide) ?_
  refine lv_aload_n hx hb dL_undo_2 rfl (lv_at hl 0 rfl) ?_
  obtain ⟨v, hv⟩ : ∃ v, (sX7_undo Os T) = v := ⟨_, rfl⟩
  have k0 := c_X7_undo l D cs z A adK adV Os T hd hlst hn
  rw [hv] at k0 hc ⊢
  refine x_w v (vx_runV (As := []) (rest := [.int 0, .ref oo]) ⟨hx, hb, hml, hown, hts⟩ k0 (cwV 0 hts (good_V w_ml_L_75 w_im_X7_undo w_se_X7_undo w_in_X7 w_co_X7_undo) rfl rfl rfl ⟨rfl, hd_X7_undo⟩ ⟨Nat.le_of_ble_eq_true rfl, Nat.le_of_ble_eq_true rfl⟩) (te_V (C := RX7) (T9 := TX7) (N := 5) (ci := 7) (q0 := 0) hT hE hXE va_S.rf rfl rfl) rfl rfl hl.1 rfl (lv_room (Nat.le_of_ble_eq_true rfl)) dL_undo_3 ⟨Nat.le_of_ble_eq_true rfl, Nat.le_of_ble_eq_true rfl⟩) (va_S.rf : va_S (wAd z A oo) s.heap s.heap []) (fun _ _ h => Or.inl h) (fun _ h => Or.inl h) (fun c0 ce q9 t locs hT hz hk hS e1 e2 e3 => ?_) (fun c0 t locs hT hz hk hS => ?_)
  · have hO : va_P D vwC (oW cs oo g) t.heap := p_keep hO (fun i q hq => by match i, hq with | 0, hq => (cases hq; exact ho) | i + 1, hq => simp [oW] at hq) hk
    rcases hc with hc | hc
    · exact absurd hc c0
    · refine vx_catch (own := RL) (name := "java/lang/IllegalStateException") (E := "java/lang/IllegalStateException") hown [] ⟨0, 8, 11, 15⟩ [] htab (fun x h => absurd h List.not_mem_nil) (by decide) (by decide) (hts _ w_cl_L_15) (va_Nw.use rfl (hXE.2.1 _ x_mem2)) e1 e2 (wcl e3 hc rfl) ?_
      refine lv_astore_n (lv' := [(2, .ref q9), (0, .ref (z 0)), (1, .ref oo)]) hx hb dL_undo_11 rfl hl (by decide) rfl (fun ls hl => ?_)
      refine lv_iconst (v := 1) hx hb dL_undo_12 (by decide) ?_
      exact W.iret (v := 1) hx hb hr (fun t ht hW => ⟨⟨1, (v.2.2, g), rfl, by rw [wr_1 (v := v) c0 hc]; exact ⟨rfl, rfl⟩, by rw [ht]; exact hT, pw ht hO⟩, hS.F ht⟩) hS.2.2 dL_undo_13 (hlocks := hlocks)
  · have hO : va_P D vwC (oW cs oo g) t.heap := p_keep hO (fun i q hq => by match i, hq with | 0, hq => (cases hq; exact ho) | i + 1, hq => simp [oW] at hq) hk
    refine lv_i2l hx hb dL_undo_6 rfl ?_
    refine va_last (D := D) (ws := oW cs oo g ++ (zW cs z A v.2.2.2 ++ alW cs A v.2.2.1 19)) hx hb hK (hO.app (ts_all hT)) (o_D cs g v.2.2.1 v.2.2.2 hd ho) hS 0 4 rfl rfl (by unfold vp_in; decide) dL_undo_7 (fun H locs hP _ hS => ?_)
    have hP : va_P D vwC (oW cs oo (vp_updL g (0 : Int32).toNatClampNeg v.2.1.toInt64) ++ (zW cs z A v.2.2.2 ++ alW cs A v.2.2.1 19)) H := hP
    have hT := ts_of_all (p_r hP)
    refine lv_goto (tgt := 14) hx hb dL_undo_8 (by decide) ?_
    refine lv_iconst (v := 0) hx hb dL_undo_14 (by decide) ?_
    exact W.iret (v := 0) hx hb hr (fun t ht hW => ⟨⟨0, (v.2.2, _), rfl, by rw [wr_0 (v := v) c0]; exact ⟨rfl, rfl⟩, by rw [ht]; exact hT, pw ht (p_l hP)⟩, hS.F ht⟩) hS.2.2 dL_undo_15 (hlocks := hlocks)
theorem hd_L_work : yL_work.cls ≠ "java/lang/invoke/MethodHandle" ∧ yL_work.cls ≠ "java/lang/invoke/VarHandle" ∧ (parseMethodDescriptor yL_work.desc).map (fun d => d.parameters.length) = some 4 := by decide +kernel
theorem w_co_L_work : (.codeWith yL_work cL_work 5 (some .int) [(0, 10, 13, 28), (0, 10, 17, 13)] : Cond) ∈ GL := gl (tb4 (List.mem_of_getElem? (i := 95) (by decide +kernel))) (by decide +kernel)
def sL_work (Os : Nat → OF) (T : OF) (g : Nat → Int64) (p1 : Int32) (p2 : Int32) : Int32 × TSt × (Nat → Int64) := wr [3, 1] ((sX7_work Os T p1 p2).1, (sX7_work Os T p1 p2).2, (Os, T)) g
set_option maxHeartbeats 4000000 in
set_option maxRecDepth 100000 in
theorem c_L_work (l : Launch) (D : va_G) (cs : Nat → ClassId) (z : Nat → Nat) (A : Nat → Nat → Nat) (adK adV : Nat → Nat) (oo : Nat) (Os : Nat → OF) (T : OF) (g : Nat → Int64) (p1 : Int32) (p2 : Int32) (hd : tD z A) (ho : ¬ tA z A oo) (hlst : l.stackTraces = false)  (hc : (sX7_work Os T p1 p2).1 = 0 ∨ (sX7_work Os T p1 p2).1 = 3 ∨ (sX7_work Os T p1 p2).1 = 1) : Met l yL_work (.codeWith yL_work cL_work 5 (some .int) [(0, 10, 13, 28), (0, 10, 17, 13)] :: GL) ({ frames := 7, cells := 1, slots := 6, locals := 108 } : Room) (va_Pc [.ref (z 0), .int p1, .int p2, .ref oo] (LWE D cs z A adK adV oo Os T g)) (va_Qi (fun (r9 : Int32) (u : TSt × (Nat → Int64)) => r9 = (sL_work Os T g p1 p2).1 ∧ u = (sL_work Os T g p1 p2).2) (fun u t => tsP D cs z A u.1.1 u.1.2 t.heap ∧ va_P D vwC (oW cs oo u.2) t.heap) (wAd z A oo)) 1 6 (wAd z A oo) := by
  refine met_h (lv := [(0, .ref (z 0)), (1, .int p1), (2, .int p2), (3, .ref oo)]) (by decide) (Nat.le_of_ble_eq_true rfl) rfl ?_
  intro p e s m args below meth c ls hx hb hr hml hts hown hlocks htab hB0 hl
  obtain ⟨⟨⟨⟨hT, hE⟩, hXE⟩, hO⟩, hN⟩ := hB0
  have hown : s.vm.findClass RL = some m.cls := hown
  have hK := hE.1
  unfold sL_work
  refine lv_aload_n hx hb dL_work_0 rfl (lv_at hl 3 rfl) ?_
  refine lv_iconst (v := 0) hx hb dL_work_1 (by decide) ?_
  refine lv_aload_n hx hb dL_work_2 rfl (lv_at hl 0 rfl) ?_
  refine lv_iload_n hx hb dL_work_3 rfl (lv_at hl 1 rfl) ?_
  refine lv_iload_n hx hb dL_work_4 rfl (lv_at hl 2 rfl) ?_
  obtain ⟨v, hv⟩ : ∃ v, (sX7_work Os T p1 p2) = v := ⟨_, rfl⟩
  have k0 := c_X7_work l D cs z A adK adV Os T p1 p2 hd hlst
  rw [hv] at k0 hc ⊢
  refine x_r v (vx_runV (As := [.int p1, .int p2]) (rest := [.int 0, .ref oo]) ⟨hx, hb, hml, hown, hts⟩ k0 (cwV 2 hts (good_V w_ml_L_39 w_im_X7_work w_se_X7_work w_in_X7 w_co_X7_work) rfl rfl rfl ⟨rfl, hd_X7_work⟩ ⟨Nat.le_of_ble_eq_true rfl, Nat.le_of_ble_eq_true rfl⟩) (te_V (C := RX7) (T9 := TX7) (N := 5) (ci := 7) (q0 := 0) hT hE hXE va_S.rf rfl rfl) rfl rfl hl.1 rfl (lv_room (Nat.le_of_ble_eq_true rfl)) dL_work_5 ⟨Nat.le_of_ble_eq_true rfl, Nat.le_of_ble_eq_true rfl⟩) (va_S.rf : va_S (wAd z A oo) s.heap s.heap []) (fun _ _ h => Or.inl h) (fun _ h => Or.inl h) (fun c0 ce q9 t locs hT hz hk hS e1 e2 e3 => ?_) (fun c0 t locs hT hz hk hS => ?_)
  · have hO : va_P D vwC (oW cs oo g) t.heap := p_keep hO (fun i q hq => by match i, hq with | 0, hq => (cases hq; exact ho) | i + 1, hq => simp [oW] at hq) hk
    rcases hc with hc | hc | hc
    · exact absurd hc c0
    · refine vx_catch (own := RL) (name := "java/lang/IndexOutOfBoundsException") (E := "java/lang/IndexOutOfBoundsException") hown [] ⟨0, 10, 13, 28⟩ [⟨0, 10, 17, 13⟩] htab (fun x h => absurd h List.not_mem_nil) (by decide) (by decide) (hts _ w_cl_L_28) (va_Nw.use rfl (hXE.2.1 _ x_mem3)) e1 e2 (wcl e3 hc rfl) ?_
      refine lv_astore (lv' := [(4, .ref q9), (0, .ref (z 0)), (1, .int p1), (2, .int p2), (3, .ref oo)]) hx hb dL_work_13 hl (by decide) rfl (fun ls hl => ?_)
      refine lv_iconst (v := 1) hx hb dL_work_15 (by decide) ?_
      exact W.iret (v := 1) hx hb hr (fun t ht hW => ⟨⟨1, ((Os, T), g), rfl, by rw [wr_1 (v := (v.1, v.2, (Os, T))) c0 hc]; exact ⟨rfl, rfl⟩, by rw [ht]; exact hT, pw ht hO⟩, hS.F ht⟩) hS.2.2 dL_work_16 (hlocks := hlocks)
    · refine vx_catch (own := RL) (name := "java/lang/IllegalArgumentException") (E := "java/lang/IllegalArgumentException") hown [⟨0, 10, 13, 28⟩] ⟨0, 10, 17, 13⟩ [] htab (fun x hx9 => by simp only [List.mem_cons, List.not_mem_nil, or_false] at hx9; subst hx9; exact Or.inr ⟨by decide, "java/lang/IndexOutOfBoundsException", hts _ w_cl_L_28, hN.2.1⟩) (by decide) (by decide) (hts _ w_cl_L_13) (va_Nw.use rfl (hXE.2.1 _ x_mem1)) e1 e2 (wcl e3 hc rfl) ?_
      refine lv_astore (lv' := [(4, .ref q9), (0, .ref (z 0)), (1, .int p1), (2, .int p2), (3, .ref oo)]) hx hb dL_work_17 hl (by decide) rfl (fun ls hl => ?_)
      refine lv_iconst (v := 2) hx hb dL_work_19 (by decide) ?_
      exact W.iret (v := 2) hx hb hr (fun t ht hW => ⟨⟨2, ((Os, T), g), rfl, by rw [wr_1 (v := (v.1, v.2, (Os, T))) c0 hc]; exact ⟨rfl, rfl⟩, by rw [ht]; exact hT, pw ht hO⟩, hS.F ht⟩) hS.2.2 dL_work_20 (hlocks := hlocks)
  · have hO : va_P D vwC (oW cs oo g) t.heap := p_keep hO (fun i q hq => by match i, hq with | 0, hq => (cases hq; exact ho) | i + 1, hq => simp [oW] at hq) hk
    refine lv_i2l hx hb dL_work_8 rfl ?_
    refine va_last (D := D) (ws := oW cs oo g ++ (zW cs z A T ++ alW cs A Os 19)) hx hb hK (hO.app (ts_all hT)) (o_D cs g Os T hd ho) hS 0 4 rfl rfl (by unfold vp_in; decide) dL_work_9 (fun H locs hP _ hS => ?_)
    have hP : va_P D vwC (oW cs oo (vp_updL g (0 : Int32).toNatClampNeg v.2.toInt64) ++ (zW cs z A T ++ alW cs A Os 19)) H := hP
    have hT := ts_of_all (p_r hP)
    refine lv_goto (tgt := 21) hx hb dL_work_10 (by decide) ?_
    refine lv_iconst (v := 0) hx hb dL_work_21 (by decide) ?_
    exact W.iret (v := 0) hx hb hr (fun t ht hW => ⟨⟨0, ((Os, T), _), rfl, by rw [wr_0 (v := (v.1, v.2, (Os, T))) c0]; exact ⟨rfl, rfl⟩, by rw [ht]; exact hT, pw ht (p_l hP)⟩, hS.F ht⟩) hS.2.2 dL_work_22 (hlocks := hlocks)
