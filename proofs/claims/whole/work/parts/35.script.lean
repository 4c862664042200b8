theorem hd_X7_groupsDropped : yX7_groupsDropped.cls ≠ "java/lang/invoke/MethodHandle" ∧ yX7_groupsDropped.cls ≠ "java/lang/invoke/VarHandle" ∧ (parseMethodDescriptor yX7_groupsDropped.desc).map (fun d => d.parameters.length) = some 2 := by decide +kernel
def LX7_groupsDropped_5 (p1 : Int64) (p2 : Int32) : Nat → Int64 → Int32 → Int64
  | 0 => fun _ _ => 0
  | n + 1 => fun x3 x5 => (if p2 ≤ x5 then x3 else (LX7_groupsDropped_5 p1 p2 n (x3 / (1000000 : Int64)) (x5 + 1)))
theorem LX7_groupsDropped_5_eq (p1 : Int64) (p2 : Int32) (n : Nat) (x3 : Int64) (x5 : Int32) : LX7_groupsDropped_5 p1 p2 (n + 1) x3 x5 = (if p2 ≤ x5 then x3 else (LX7_groupsDropped_5 p1 p2 n (x3 / (1000000 : Int64)) (x5 + 1))) := rfl
def sX7_groupsDropped (p1 : Int64) (p2 : Int32) : Int64 := (LX7_groupsDropped_5 p1 p2 (upM p2 0 + 1) p1 0)
set_option maxHeartbeats 4000000 in
set_option maxRecDepth 100000 in
theorem c_X7_groupsDropped (l : Launch) (D : va_G) (cs : Nat → ClassId) (p1 : Int64) (p2 : Int32) : Met l yX7_groupsDropped (wc yX7_groupsDropped cX7_groupsDropped 6 (some .long)) ({ frames := 0, cells := 0, slots := 0, locals := 0 } : Room) (va_Pc [.long p1, .int p2] (PE D cs ([]))) (vp_Sl (fun r9 => r9 = (sX7_groupsDropped p1 p2))) 0 0 (fun _ => False) := by
  obtain ⟨v, hv⟩ : ∃ v, sX7_groupsDropped p1 p2 = v := ⟨_, rfl⟩
  rw [hv]
  refine met_o (lv := [(0, .long p1), (2, .int p2)]) (by decide) (Nat.le_of_ble_eq_true rfl) rfl ?_
  intro p e s m args below meth c ls hx hb hr hml hts hown hlocks hin hP hE hl
  have hown : s.vm.findClass RX7 = some m.cls := hown
  have hK := hE.1
  have hP : va_P D vwC ([]) s.heap := hP
  unfold sX7_groupsDropped at hv
  refine lv_lload_n hx hb dX7_groupsDropped_0 rfl (lv_at hl 0 rfl) ?_
  refine lv_lstore_n (lv' := [(3, .long p1), (0, .long p1), (2, .int p2)]) hx hb dX7_groupsDropped_1 rfl hl (by decide) rfl (fun ls hl => ?_)
  refine lv_iconst (v := 0) hx hb dX7_groupsDropped_2 (by decide) ?_
  refine lv_istore (lv' := [(5, .int 0), (3, .long p1), (0, .long p1), (2, .int p2)]) hx hb dX7_groupsDropped_3 hl (by decide) rfl (fun ls hl => ?_)
  have LOOP : ∀ (n : Nat) (x3 : Int64) (x5 : Int32), upM p2 x5 < n → LX7_groupsDropped_5 p1 p2 n x3 x5 = v → ∀ ls : Array Slot, lv_has ls 6 [(0, .long p1), (2, .int p2), (3, .long x3), (5, .int x5)] → W p l e ({ frames := 0, cells := 0, slots := 0, locals := 0 } : Room) s m args below meth c s.heap [] 0 0 (MQ below (vp_Sl (fun r9 => r9 = v)) args s 0 0 (fun _ => False)) (F0 m 5 ls []) := by
    clear hv
    intro n
    induction n with
    | zero => intro x3 x5 hm; exact absurd hm (Nat.not_lt_zero _)
    | succ n ih =>
      intro x3 x5 hm hv ls hl
      have hv := (LX7_groupsDropped_5_eq p1 p2 n x3 x5).symm.trans hv
      refine lv_iload hx hb dX7_groupsDropped_5 (lv_at hl 3 rfl) ?_
      refine lv_iload_n hx hb dX7_groupsDropped_7 rfl (lv_at hl 1 rfl) ?_
      refine lv_icmp_ge (tgt := 23) hx hb dX7_groupsDropped_8 (by decide) (fun c8 => ?_) (fun c8 => ?_)
      · have hv := (if_pos c8).symm.trans hv
        refine lv_lload_n hx hb dX7_groupsDropped_23 rfl (lv_at hl 2 rfl) ?_
        exact W.lret (v := x3) hx hb hr (fun t ht hW => ⟨x3, rfl, hv, ht⟩) (fun _ h => nomatch h) dX7_groupsDropped_24 (hlocks := hlocks)
      · have hv := (if_neg c8).symm.trans hv
        refine lv_lload_n hx hb dX7_groupsDropped_11 rfl (lv_at hl 2 rfl) ?_
        refine lv_ldc2 (v := 1000000) hx hb hown (hts _ w_cn_X7_264) dX7_groupsDropped_12 ?_
        refine lv_ldiv hx hb dX7_groupsDropped_15 (by decide) ?_
        refine lv_lstore_n (lv' := [(3, .long (x3 / (1000000 : Int64))), (0, .long p1), (2, .int p2), (5, .int x5)]) hx hb dX7_groupsDropped_16 rfl hl (by decide) rfl (fun ls hl => ?_)
        refine lv_iinc (v := x5 + 1) (lv' := [(5, .int (x5 + 1)), (3, .long (x3 / (1000000 : Int64))), (0, .long p1), (2, .int p2)]) hx hb dX7_groupsDropped_17 hl (k := 3) rfl rfl (by decide) rfl (fun ls hl => ?_)
        refine lv_goto (tgt := 5) hx hb dX7_groupsDropped_20 (by decide) ?_
        exact ih (x3 / (1000000 : Int64)) (x5 + 1) (upM_s c8 hm) hv ls (lv_sub hl [2, 3, 1, 0] rfl)
  exact LOOP _ p1 0 (Nat.lt_succ_self _) hv ls (lv_sub hl [2, 3, 1, 0] rfl)
theorem hd_X7_succeeds : yX7_succeeds.cls ≠ "java/lang/invoke/MethodHandle" ∧ yX7_succeeds.cls ≠ "java/lang/invoke/VarHandle" ∧ (parseMethodDescriptor yX7_succeeds.desc).map (fun d => d.parameters.length) = some 2 := by decide +kernel
def sX7_succeeds (O : OF) (p1 : Int32) : Bool × OF := (if (p1 / 100000) = 1 then (if 1000 ≤ (p1 - p1 / 10000 * 10000) then (false, O) else (if (p1 - p1 / 10 * 10) = 0 then (if (sX7_isField ((p1 - p1 / 1000 * 1000) / 10)) = true then ((if ((sX1_reviseSheet O ((p1 - p1 / 100000 * 100000) / 10000) (1 <<< (((p1 - p1 / 1000 * 1000) / 10) &&& 31))).1) < 0 then false else true), ((sX1_reviseSheet O ((p1 - p1 / 100000 * 100000) / 10000) (1 <<< (((p1 - p1 / 1000 * 1000) / 10) &&& 31))).2)) else (false, O)) else (false, O))) else (if (p1 / 100000) = 2 then (if (p1 - p1 / 1000 * 1000) = 0 then ((if ((sX1_addPrint O ((p1 - p1 / 100000 * 100000) / 10000) ((p1 - p1 / 10000 * 10000) / 1000)).1) < 0 then false else true), ((sX1_addPrint O ((p1 - p1 / 100000 * 100000) / 10000) ((p1 - p1 / 10000 * 10000) / 1000)).2)) else (false, O)) else (if (p1 / 100000) = 3 then (if (p1 - p1 / 100 * 100) = 0 then ((if ((sX1_stampPrint O ((p1 - p1 / 100000 * 100000) / 1000) ((p1 - p1 / 1000 * 1000) / 100)).1) < 0 then false else true), ((sX1_stampPrint O ((p1 - p1 / 100000 * 100000) / 1000) ((p1 - p1 / 1000 * 1000) / 100)).2)) else (false, O)) else (if (p1 / 100000) = 4 then (if (p1 - p1 / 10 * 10) = 0 then ((if ((sX1_buildField O ((p1 - p1 / 100000 * 100000) / 1000) ((p1 - p1 / 1000 * 1000) / 10)).1) < 0 then false else true), ((sX1_buildField O ((p1 - p1 / 100000 * 100000) / 1000) ((p1 - p1 / 1000 * 1000) / 10)).2)) else (false, O)) else (if (p1 / 100000) = 5 then (if 100 ≤ (p1 - p1 / 100000 * 100000) then (false, O) else ((if ((sX1_passDays O (p1 - p1 / 100 * 100)).1) < 0 then false else true), ((sX1_passDays O (p1 - p1 / 100 * 100)).2))) else (if (p1 / 100000) = 6 then (if (p1 - p1 / 1000 * 1000) = 0 then ((if ((sX1_takeBack O ((p1 - p1 / 100000 * 100000) / 1000)).1) < 0 then false else true), ((sX1_takeBack O ((p1 - p1 / 100000 * 100000) / 1000)).2)) else (false, O)) else (if (p1 / 100000) = 7 then (if (p1 - p1 / 10000 * 10000) = 0 then ((if ((sX1_checkSheet O ((p1 - p1 / 100000 * 100000) / 10000)).1) < 0 then false else true), ((sX1_checkSheet O ((p1 - p1 / 100000 * 100000) / 10000)).2)) else (false, O)) else (if (p1 / 100000) = 8 then ((if 100 ≤ (p1 - p1 / 100000 * 100000) then false else (if (p1 - p1 / 100 * 100) < (sX1_wrongWorks O (-1) (-1)) then false else true)), O) else (if (p1 / 100000) = 9 then ((if 2 ≤ (p1 - p1 / 1000 * 1000) then false else (if (sX3_has O ((p1 - p1 / 100000 * 100000) / 1000)) = true then (if (p1 - p1 / 10 * 10) = 1 then (if (b2i (sX1_mayBuildBy O ((p1 - p1 / 100000 * 100000) / 1000))) = 1 then true else false) else (if (b2i (sX1_mayBuildBy O ((p1 - p1 / 100000 * 100000) / 1000))) = 0 then true else false)) else false)), O) else (false, O))))))))))
set_option maxHeartbeats 4000000 in
set_option maxRecDepth 100000 in
theorem c_X7_succeeds (l : Launch) (D : va_G) (cs : Nat → ClassId) (a : Nat → Nat) (O : OF) (p1 : Int32) (hd : oD a) : Met l yX7_succeeds (wc yX7_succeeds cX7_succeeds 10 (some .boolean)) ({ frames := 6, cells := 0, slots := 0, locals := 130 } : Room) (va_Pc [.ref (a 0), .int p1] (PE D cs (ofW cs a O))) (va_Qi (fun (r9 : Int32) (u : OF) => r9 = b2i (sX7_succeeds O p1).1 ∧ u = (sX7_succeeds O p1).2) (fun u t => va_P D vwC (ofW cs a u) t.heap) (oA a)) 0 0 (oA a) := by
  obtain ⟨v, hv⟩ : ∃ v, sX7_succeeds O p1 = v := ⟨_, rfl⟩
  rw [hv]
  refine met_o (lv := [(0, .ref (a 0)), (1, .int p1)]) (by decide) (Nat.le_of_ble_eq_true rfl) rfl ?_
  intro p e s m args below meth c ls hx hb hr hml hts hown hlocks hin hP hE hl
  have hown : s.vm.findClass RX7 = some m.cls := hown
  have hK := hE.1
  have hP : va_P D vwC (ofW cs a O) s.heap := hP
  have hS : va_S (oA a) s.heap s.heap [] := va_S.rf
  unfold sX7_succeeds at hv
  refine lv_iload_n hx hb dX7_succeeds_0 rfl (lv_at hl 1 rfl) ?_
  refine lv_ldcw (v := 100000) hx hb hown (hts _ w_cn_X7_333) dX7_succeeds_1 ?_
  refine lv_irem hx hb dX7_succeeds_4 (by decide) ?_
  refine lv_istore_n (lv' := [(2, .int (p1 - p1 / 100000 * 100000)), (0, .ref (a 0)), (1, .int p1)]) hx hb dX7_succeeds_5 rfl hl (by decide) rfl (fun ls hl => ?_)
  refine lv_iload_n hx hb dX7_succeeds_6 rfl (lv_at hl 2 rfl) ?_
  refine lv_sipush (v := 10000) hx hb dX7_succeeds_7 (by decide) ?_
  refine lv_irem hx hb dX7_succeeds_10 (by decide) ?_
  refine lv_istore_n (lv' := [(3, .int (p1 - p1 / 10000 * 10000)), (2, .int (p1 - p1 / 100000 * 100000)), (0, .ref (a 0)), (1, .int p1)]) hx hb dX7_succeeds_11 rfl hl (by decide) rfl (fun ls hl => ?_)
  refine lv_iload_n hx hb dX7_succeeds_12 rfl (lv_at hl 3 rfl) ?_
  refine lv_sipush (v := 1000) hx hb dX7_succeeds_13 (by decide) ?_
  refine lv_irem hx hb dX7_succeeds_16 (by decide) ?_
  refine lv_istore (lv' := [(4, .int (p1 - p1 / 1000 * 1000)), (3, .int (p1 - p1 / 10000 * 10000)), (2, .int (p1 - p1 / 100000 * 100000)), (0, .ref (a 0)), (1, .int p1)]) hx hb dX7_succeeds_17 hl (by decide) rfl (fun ls hl => ?_)
  refine lv_iload_n hx hb dX7_succeeds_19 rfl (lv_at hl 4 rfl) ?_
  refine lv_bipush (v := 100) hx hb dX7_succeeds_20 (by decide) ?_
  refine lv_irem hx hb dX7_succeeds_22 (by decide) ?_
  refine lv_istore (lv' := [(5, .int (p1 - p1 / 100 * 100)), (4, .int (p1 - p1 / 1000 * 1000)), (3, .int (p1 - p1 / 10000 * 10000)), (2, .int (p1 - p1 / 100000 * 100000)), (0, .ref (a 0)), (1, .int p1)]) hx hb dX7_succeeds_23 hl (by decide) rfl (fun ls hl => ?_)
  refine lv_iload_n hx hb dX7_succeeds_25 rfl (lv_at hl 5 rfl) ?_
  refine lv_bipush (v := 10) hx hb dX7_succeeds_26 (by decide) ?_
  refine lv_irem hx hb dX7_succeeds_28 (by decide) ?_
  refine lv_istore (lv' := [(6, .int (p1 - p1 / 10 * 10)), (5, .int (p1 - p1 / 100 * 100)), (4, .int (p1 - p1 / 1000 * 1000)), (3, .int (p1 - p1 / 10000 * 10000)), (2, .int (p1 - p1 / 100000 * 100000)), (0, .ref (a 0)), (1, .int p1)]) hx hb dX7_succeeds_29 hl (by decide) rfl (fun ls hl => ?_)
  refine lv_iload_n hx hb dX7_succeeds_31 rfl (lv_at hl 4 rfl) ?_
  refine lv_sipush (v := 10000) hx hb dX7_succeeds_32 (by decide) ?_
  refine lv_idiv hx hb dX7_succeeds_35 (by decide) ?_
  refine lv_istore (lv' := [(7, .int ((p1 - p1 / 100000 * 100000) / 10000)), (6, .int (p1 - p1 / 10 * 10)), (5, .int (p1 - p1 / 100 * 100)), (4, .int (p1 - p1 / 1000 * 1000)), (3, .int (p1 - p1 / 10000 * 10000)), (2, .int (p1 - p1 / 100000 * 100000)), (0, .ref (a 0)), (1, .int p1)]) hx hb dX7_succeeds_36 hl (by decide) rfl (fun ls hl => ?_)
  refine lv_iload_n hx hb dX7_succeeds_38 rfl (lv_at hl 5 rfl) ?_
  refine lv_sipush (v := 1000) hx hb dX7_succeeds_39 (by decide) ?_
  refine lv_idiv hx hb dX7_succeeds_42 (by decide) ?_
  refine lv_istore (lv' := [(8, .int ((p1 - p1 / 100000 * 100000) / 1000)), (7, .int ((p1 - p1 / 100000 * 100000) / 10000)), (6, .int (p1 - p1 / 10 * 10)), (5, .int (p1 - p1 / 100 * 100)), (4, .int (p1 - p1 / 1000 * 1000)), (3, .int (p1 - p1 / 10000 * 10000)), (2, .int (p1 - p1 / 100000 * 100000)), (0, .ref (a 0)), (1, .int p1)]) hx hb dX7_succeeds_43 hl (by decide) rfl (fun ls hl => ?_)
  refine lv_iload hx hb dX7_succeeds_45 (lv_at hl 4 rfl) ?_
  refine lv_bipush (v := 10) hx hb dX7_succeeds_47 (by decide) ?_
  refine lv_idiv hx hb dX7_succeeds_49 (by decide) ?_
  refine lv_istore (lv' := [(9, .int ((p1 - p1 / 1000 * 1000) / 10)), (8, .int ((p1 - p1 / 100000 * 100000) / 1000)), (7, .int ((p1 - p1 / 100000 * 100000) / 10000)), (6, .int (p1 - p1 / 10 * 10)), (5, .int (p1 - p1 / 100 * 100)), (4, .int (p1 - p1 / 1000 * 1000)), (3, .int (p1 - p1 / 10000 * 10000)), (2, .int (p1 - p1 / 100000 * 100000)), (0, .ref (a 0)), (1, .int p1)]) hx hb dX7_succeeds_50 hl (by decide) rfl (fun ls hl => ?_)
  refine lv_iload_n hx hb dX7_succeeds_52 rfl (lv_at hl 9 rfl) ?_
  refine lv_ldcw (v := 100000) hx hb hown (hts _ w_cn_X7_333) dX7_succeeds_53 ?_
  refine lv_idiv hx hb dX7_succeeds_56 (by decide) ?_
  by_cases c57_0 : (p1 / 100000) = 1
  · have hv := (if_pos c57_0).symm.trans hv
    refine lv_tableIn (off := 51) (tgt := 108) hx hb dX7_succeeds_57 (by rw [c57_0]; decide) (by rw [c57_0]; decide) (by rw [c57_0]; rfl) (by decide) ?_
    refine lv_iload_n hx hb dX7_succeeds_108 rfl (lv_at hl 6 rfl) ?_
    refine lv_sipush (v := 1000) hx hb dX7_succeeds_109 (by decide) ?_
    refine lv_icmp_ge (tgt := 145) hx hb dX7_succeeds_112 (by decide) (fun c112 => ?_) (fun c112 => ?_)
    · have hv := (if_pos c112).symm.trans hv
      refine lv_iconst (v := 0) hx hb dX7_succeeds_145 (by decide) ?_
      exact W.zret (ty := .boolean) (v := 0) hx hb hr (b2i_nar false) (fun t ht hW => ⟨⟨0, O, rfl, pairb_eq hv, pw ht hP⟩, hS.F ht⟩) hS.2.2 dX7_succeeds_146 (hlocks := hlocks)
    · have hv := (if_neg c112).symm.trans hv
      refine lv_iload hx hb dX7_succeeds_115 (lv_at hl 3 rfl) ?_
      refine lv_if_ne (tgt := 145) hx hb dX7_succeeds_117 (by decide) (fun c117 => ?_) (fun c117 => ?_)
      · have hv := (if_neg c117).symm.trans hv
        refine lv_iconst (v := 0) hx hb dX7_succeeds_145 (by decide) ?_
        exact W.zret (ty := .boolean) (v := 0) hx hb hr (b2i_nar false) (fun t ht hW => ⟨⟨0, O, rfl, pairb_eq hv, pw ht hP⟩, hS.F ht⟩) hS.2.2 dX7_succeeds_146 (hlocks := hlocks)
      · have hv := (if_pos c117).symm.trans hv
        refine lv_iload hx hb dX7_succeeds_120 (lv_at hl 0 rfl) ?_
        refine ro_i (b2i (sX7_isField ((p1 - p1 / 1000 * 1000) / 10))) (run_c (va_runS (As := [.int ((p1 - p1 / 1000 * 1000) / 10)]) (rest := []) ⟨hx, hb, hml, hown, hts⟩ (c_X7_isField l D cs ((p1 - p1 / 1000 * 1000) / 10)) (cwS 1 hts (good_S w_ml_X7_96 w_st_X7_isField w_in_X7 w_co_X7_isField) rfl rfl rfl ⟨rfl, hd_X7_isField⟩ ⟨Nat.le_of_ble_eq_true rfl, Nat.le_of_ble_eq_true rfl⟩) (pe_S (p_nil D _) hE) rfl rfl hl.1 rfl (lv_room (Nat.le_of_ble_eq_true rfl)) dX7_succeeds_122 ⟨Nat.zero_le _, Nat.zero_le _⟩)) ?_
        refine lv_if_eq (tgt := 145) hx hb dX7_succeeds_125 (by decide) (fun c125 => ?_) (fun c125 => ?_)
        · have c125 := b2i_f c125
          have hv := (if_neg c125).symm.trans hv
          refine lv_iconst (v := 0) hx hb dX7_succeeds_145 (by decide) ?_
          exact W.zret (ty := .boolean) (v := 0) hx hb hr (b2i_nar false) (fun t ht hW => ⟨⟨0, O, rfl, pairb_eq hv, pw ht hP⟩, hS.F ht⟩) hS.2.2 dX7_succeeds_146 (hlocks := hlocks)
        · have c125 := b2i_t c125
          have hv := (if_pos c125).symm.trans hv
          refine lv_aload_n hx hb dX7_succeeds_128 rfl (lv_at hl 8 rfl) ?_
          refine lv_iload hx hb dX7_succeeds_129 (lv_at hl 2 rfl) ?_
          refine lv_iconst (v := 1) hx hb dX7_succeeds_131 (by decide) ?_
          refine lv_iload hx hb dX7_succeeds_132 (lv_at hl 0 rfl) ?_
          refine lv_ishl hx hb dX7_succeeds_134 ?_
          refine w_i (sX1_reviseSheet O ((p1 - p1 / 100000 * 100000) / 10000) (1 <<< (((p1 - p1 / 1000 * 1000) / 10) &&& 31))) (va_runV (As := [.int ((p1 - p1 / 100000 * 100000) / 10000), .int (1 <<< (((p1 - p1 / 1000 * 1000) / 10) &&& 31))]) (rest := []) ⟨hx, hb, hml, hown, hts⟩ (c_X1_reviseSheet l D cs a O ((p1 - p1 / 100000 * 100000) / 10000) (1 <<< (((p1 - p1 / 1000 * 1000) / 10) &&& 31)) hd) (cwV 2 hts (good_V w_ml_X7_171 w_im_X1_reviseSheet w_se_X1_reviseSheet w_in_X1 w_co_X1_reviseSheet) rfl rfl rfl ⟨rfl, hd_X1_reviseSheet⟩ ⟨Nat.le_of_ble_eq_true rfl, Nat.le_of_ble_eq_true rfl⟩) (pe_W (C := RX1) (T := TX1) (N := 6) (ci := 1) (q0 := 0) hP hE rfl rfl) rfl rfl hl.1 rfl (lv_room (Nat.le_of_ble_eq_true rfl)) dX7_succeeds_135 ⟨Nat.zero_le _, Nat.zero_le _⟩) hS (fun _ _ h => h) (fun _ h => h) (fun t locs hB hz hk hS => ?_)
          have hP : va_P D vwC (ofW cs a ((sX1_reviseSheet O ((p1 - p1 / 100000 * 100000) / 10000) (1 <<< (((p1 - p1 / 1000 * 1000) / 10) &&& 31))).2)) t.heap := hB
          refine join_i (J := 146) (ls := ls) (rest := []) (b2i (if ((sX1_reviseSheet O ((p1 - p1 / 100000 * 100000) / 10000) (1 <<< (((p1 - p1 / 1000 * 1000) / 10) &&& 31))).1) < 0 then false else true)) ?_ (fun hJ => ?_)
          · exact W.zret (ty := .boolean) (v := b2i (if ((sX1_reviseSheet O ((p1 - p1 / 100000 * 100000) / 10000) (1 <<< (((p1 - p1 / 1000 * 1000) / 10) &&& 31))).1) < 0 then false else true)) hx hb hr (b2i_nar (if ((sX1_reviseSheet O ((p1 - p1 / 100000 * 100000) / 10000) (1 <<< (((p1 - p1 / 1000 * 1000) / 10) &&& 31))).1) < 0 then false else true)) (fun t ht hW => ⟨⟨b2i (if ((sX1_reviseSheet O ((p1 - p1 / 100000 * 100000) / 10000) (1 <<< (((p1 - p1 / 1000 * 1000) / 10) &&& 31))).1) < 0 then false else true), ((sX1_reviseSheet O ((p1 - p1 / 100000 * 100000) / 10000) (1 <<< (((p1 - p1 / 1000 * 1000) / 10) &&& 31))).2), rfl, pairb_eq hv, pw ht hP⟩, hS.F ht⟩) hS.2.2 dX7_succeeds_146 (hlocks := hlocks)
          · refine lv_if_lt (tgt := 145) hx hb dX7_succeeds_138 (by decide) (fun c138 => ?_) (fun c138 => ?_)
            · refine lv_iconst (v := 0) hx hb dX7_succeeds_145 (by decide) ?_
              exact hJ _ (congrArg b2i ((if_pos c138).trans rfl))
            · refine lv_iconst (v := 1) hx hb dX7_succeeds_141 (by decide) ?_
              refine lv_goto (tgt := 146) hx hb dX7_succeeds_142 (by decide) ?_
              exact hJ _ (congrArg b2i ((if_neg c138).trans rfl))
  · have hv := (if_neg c57_0).symm.trans hv
    by_cases c57_1 : (p1 / 100000) = 2
    · have hv := (if_pos c57_1).symm.trans hv
      refine lv_tableIn (off := 90) (tgt := 147) hx hb dX7_succeeds_57 (by rw [c57_1]; decide) (by rw [c57_1]; decide) (by rw [c57_1]; rfl) (by decide) ?_
      refine lv_iload hx hb dX7_succeeds_147 (lv_at hl 5 rfl) ?_
      refine lv_if_ne (tgt := 170) hx hb dX7_succeeds_149 (by decide) (fun c149 => ?_) (fun c149 => ?_)
      · have hv := (if_neg c149).symm.trans hv
        refine lv_iconst (v := 0) hx hb dX7_succeeds_170 (by decide) ?_
        exact W.zret (ty := .boolean) (v := 0) hx hb hr (b2i_nar false) (fun t ht hW => ⟨⟨0, O, rfl, pairb_eq hv, pw ht hP⟩, hS.F ht⟩) hS.2.2 dX7_succeeds_171 (hlocks := hlocks)
      · have hv := (if_pos c149).symm.trans hv
        refine lv_aload_n hx hb dX7_succeeds_152 rfl (lv_at hl 8 rfl) ?_
        refine lv_iload hx hb dX7_succeeds_153 (lv_at hl 2 rfl) ?_
        refine lv_iload_n hx hb dX7_succeeds_155 rfl (lv_at hl 6 rfl) ?_
        refine lv_sipush (v := 1000) hx hb dX7_succeeds_156 (by decide) ?_
        refine lv_idiv hx hb dX7_succeeds_159 (by decide) ?_
        refine w_i (sX1_addPrint O ((p1 - p1 / 100000 * 100000) / 10000) ((p1 - p1 / 10000 * 10000) / 1000)) (va_runV (As := [.int ((p1 - p1 / 100000 * 100000) / 10000), .int ((p1 - p1 / 10000 * 10000) / 1000)]) (rest := []) ⟨hx, hb, hml, hown, hts⟩ (c_X1_addPrint l D cs a O ((p1 - p1 / 100000 * 100000) / 10000) ((p1 - p1 / 10000 * 10000) / 1000) hd) (cwV 2 hts (good_V w_ml_X7_177 w_im_X1_addPrint w_se_X1_addPrint w_in_X1 w_co_X1_addPrint) rfl rfl rfl ⟨rfl, hd_X1_addPrint⟩ ⟨Nat.le_of_ble_eq_true rfl, Nat.le_of_ble_eq_true rfl⟩) (pe_W (C := RX1) (T := TX1) (N := 6) (ci := 1) (q0 := 0) hP hE rfl rfl) rfl rfl hl.1 rfl (lv_room (Nat.le_of_ble_eq_true rfl)) dX7_succeeds_160 ⟨Nat.zero_le _, Nat.zero_le _⟩) hS (fun _ _ h => h) (fun _ h => h) (fun t locs hB hz hk hS => ?_)
        have hP : va_P D vwC (ofW cs a ((sX1_addPrint O ((p1 - p1 / 100000 * 100000) / 10000) ((p1 - p1 / 10000 * 10000) / 1000)).2)) t.heap := hB
        refine join_i (J := 171) (ls := ls) (rest := []) (b2i (if ((sX1_addPrint O ((p1 - p1 / 100000 * 100000) / 10000) ((p1 - p1 / 10000 * 10000) / 1000)).1) < 0 then false else true)) ?_ (fun hJ => ?_)
        · exact W.zret (ty := .boolean) (v := b2i (if ((sX1_addPrint O ((p1 - p1 / 100000 * 100000) / 10000) ((p1 - p1 / 10000 * 10000) / 1000)).1) < 0 then false else true)) hx hb hr (b2i_nar (if ((sX1_addPrint O ((p1 - p1 / 100000 * 100000) / 10000) ((p1 - p1 / 10000 * 10000) / 1000)).1) < 0 then false else true)) (fun t ht hW => ⟨⟨b2i (if ((sX1_addPrint O ((p1 - p1 / 100000 * 100000) / 10000) ((p1 - p1 / 10000 * 10000) / 1000)).1) < 0 then false else true), ((sX1_addPrint O ((p1 - p1 / 100000 * 100000) / 10000) ((p1 - p1 / 10000 * 10000) / 1000)).2), rfl, pairb_eq hv, pw ht hP⟩, hS.F ht⟩) hS.2.2 dX7_succeeds_171 (hlocks := hlocks)
        · refine lv_if_lt (tgt := 170) hx hb dX7_succeeds_163 (by decide) (fun c163 => ?_) (fun c163 => ?_)
          · refine lv_iconst (v := 0) hx hb dX7_succeeds_170 (by decide) ?_
            exact hJ _ (congrArg b2i ((if_pos c163).trans rfl))
          · refine lv_iconst (v := 1) hx hb dX7_succeeds_166 (by decide) ?_
            refine lv_goto (tgt := 171) hx hb dX7_succeeds_167 (by decide) ?_
            exact hJ _ (congrArg b2i ((if_neg c163).trans rfl))
    · have hv := (if_neg c57_1).symm.trans hv
      by_cases c57_2 : (p1 / 100000) = 3
      · have hv := (if_pos c57_2).symm.trans hv
        refine lv_tableIn (off := 115) (tgt := 172) hx hb dX7_succeeds_57 (by rw [c57_2]; decide) (by rw [c57_2]; decide) (by rw [c57_2]; rfl) (by decide) ?_
        refine lv_iload hx hb dX7_succeeds_172 (lv_at hl 4 rfl) ?_
        refine lv_if_ne (tgt := 195) hx hb dX7_succeeds_174 (by decide) (fun c174 => ?_) (fun c174 => ?_)
        · have hv := (if_neg c174).symm.trans hv
          refine lv_iconst (v := 0) hx hb dX7_succeeds_195 (by decide) ?_
          exact W.zret (ty := .boolean) (v := 0) hx hb hr (b2i_nar false) (fun t ht hW => ⟨⟨0, O, rfl, pairb_eq hv, pw ht hP⟩, hS.F ht⟩) hS.2.2 dX7_succeeds_196 (hlocks := hlocks)
        · have hv := (if_pos c174).symm.trans hv
          refine lv_aload_n hx hb dX7_succeeds_177 rfl (lv_at hl 8 rfl) ?_
          refine lv_iload hx hb dX7_succeeds_178 (lv_at hl 1 rfl) ?_
          refine lv_iload hx hb dX7_succeeds_180 (lv_at hl 5 rfl) ?_
          refine lv_bipush (v := 100) hx hb dX7_succeeds_182 (by decide) ?_
          refine lv_idiv hx hb dX7_succeeds_184 (by decide) ?_
          refine w_i (sX1_stampPrint O ((p1 - p1 / 100000 * 100000) / 1000) ((p1 - p1 / 1000 * 1000) / 100)) (va_runV (As := [.int ((p1 - p1 / 100000 * 100000) / 1000), .int ((p1 - p1 / 1000 * 1000) / 100)]) (rest := []) ⟨hx, hb, hml, hown, hts⟩ (c_X1_stampPrint l D cs a O ((p1 - p1 / 100000 * 100000) / 1000) ((p1 - p1 / 1000 * 1000) / 100) hd) (cwV 2 hts (good_V w_ml_X7_180 w_im_X1_stampPrint w_se_X1_stampPrint w_in_X1 w_co_X1_stampPrint) rfl rfl rfl ⟨rfl, hd_X1_stampPrint⟩ ⟨Nat.le_of_ble_eq_true rfl, Nat.le_of_ble_eq_true rfl⟩) (pe_W (C := RX1) (T := TX1) (N := 6) (ci := 1) (q0 := 0) hP hE rfl rfl) rfl rfl hl.1 rfl (lv_room (Nat.le_of_ble_eq_true rfl)) dX7_succeeds_185 ⟨Nat.zero_le _, Nat.zero_le _⟩) hS (fun _ _ h => h) (fun _ h => h) (fun t locs hB hz hk hS => ?_)
          have hP : va_P D vwC (ofW cs a ((sX1_stampPrint O ((p1 - p1 / 100000 * 100000) / 1000) ((p1 - p1 / 1000 * 1000) / 100)).2)) t.heap := hB
          refine join_i (J := 196) (ls := ls) (rest := []) (b2i (if ((sX1_stampPrint O ((p1 - p1 / 100000 * 100000) / 1000) ((p1 - p1 / 1000 * 1000) / 100)).1) < 0 then false else true)) ?_ (fun hJ => ?_)
          · exact W.zret (ty := .boolean) (v := b2i (if ((sX1_stampPrint O ((p1 - p1 / 100000 * 100000) / 1000) ((p1 - p1 / 1000 * 1000) / 100)).1) < 0 then false else true)) hx hb hr (b2i_nar (if ((sX1_stampPrint O ((p1 - p1 / 100000 * 100000) / 1000) ((p1 - p1 / 1000 * 1000) / 100)).1) < 0 then false else true)) (fun t ht hW => ⟨⟨b2i (if ((sX1_stampPrint O ((p1 - p1 / 100000 * 100000) / 1000) ((p1 - p1 / 1000 * 1000) / 100)).1) < 0 then false else true), ((sX1_stampPrint O ((p1 - p1 / 100000 * 100000) / 1000) ((p1 - p1 / 1000 * 1000) / 100)).2), rfl, pairb_eq hv, pw ht hP⟩, hS.F ht⟩) hS.2.2 dX7_succeeds_196 (hlocks := hlocks)
          · refine lv_if_lt (tgt := 195) hx hb dX7_succeeds_188 (by decide) (fun c188 => ?_) (fun c188 => ?_)
            · refine lv_iconst (v := 0) hx hb dX7_succeeds_195 (by decide) ?_
              exact hJ _ (congrArg b2i ((if_pos c188).trans rfl))
            · refine lv_iconst (v := 1) hx hb dX7_succeeds_191 (by decide) ?_
              refine lv_goto (tgt := 196) hx hb dX7_succeeds_192 (by decide) ?_
              exact hJ _ (congrArg b2i ((if_neg c188).trans rfl))
      · have hv := (if_neg c57_2).symm.trans hv
        by_cases c57_3 : (p1 / 100000) = 4
        · have hv := (if_pos c57_3).symm.trans hv
          refine lv_tableIn (off := 140) (tgt := 197) hx hb dX7_succeeds_57 (by rw [c57_3]; decide) (by rw [c57_3]; decide) (by rw [c57_3]; rfl) (by decide) ?_
          refine lv_iload hx hb dX7_succeeds_197 (lv_at hl 3 rfl) ?_
          refine lv_if_ne (tgt := 217) hx hb dX7_succeeds_199 (by decide) (fun c199 => ?_) (fun c199 => ?_)
          · have hv := (if_neg c199).symm.trans hv
            refine lv_iconst (v := 0) hx hb dX7_succeeds_217 (by decide) ?_
            exact W.zret (ty := .boolean) (v := 0) hx hb hr (b2i_nar false) (fun t ht hW => ⟨⟨0, O, rfl, pairb_eq hv, pw ht hP⟩, hS.F ht⟩) hS.2.2 dX7_succeeds_218 (hlocks := hlocks)
          · have hv := (if_pos c199).symm.trans hv
            refine lv_aload_n hx hb dX7_succeeds_202 rfl (lv_at hl 8 rfl) ?_
            refine lv_iload hx hb dX7_succeeds_203 (lv_at hl 1 rfl) ?_
            refine lv_iload hx hb dX7_succeeds_205 (lv_at hl 0 rfl) ?_
            refine w_i (sX1_buildField O ((p1 - p1 / 100000 * 100000) / 1000) ((p1 - p1 / 1000 * 1000) / 10)) (va_runV (As := [.int ((p1 - p1 / 100000 * 100000) / 1000), .int ((p1 - p1 / 1000 * 1000) / 10)]) (rest := []) ⟨hx, hb, hml, hown, hts⟩ (c_X1_buildField l D cs a O ((p1 - p1 / 100000 * 100000) / 1000) ((p1 - p1 / 1000 * 1000) / 10) hd) (cwV 2 hts (good_V w_ml_X7_186 w_im_X1_buildField w_se_X1_buildField w_in_X1 w_co_X1_buildField) rfl rfl rfl ⟨rfl, hd_X1_buildField⟩ ⟨Nat.le_of_ble_eq_true rfl, Nat.le_of_ble_eq_true rfl⟩) (pe_W (C := RX1) (T := TX1) (N := 6) (ci := 1) (q0 := 0) hP hE rfl rfl) rfl rfl hl.1 rfl (lv_room (Nat.le_of_ble_eq_true rfl)) dX7_succeeds_207 ⟨Nat.zero_le _, Nat.zero_le _⟩) hS (fun _ _ h => h) (fun _ h => h) (fun t locs hB hz hk hS => ?_)
            have hP : va_P D vwC (ofW cs a ((sX1_buildField O ((p1 - p1 / 100000 * 100000) / 1000) ((p1 - p1 / 1000 * 1000) / 10)).2)) t.heap := hB
            refine join_i (J := 218) (ls := ls) (rest := []) (b2i (if ((sX1_buildField O ((p1 - p1 / 100000 * 100000) / 1000) ((p1 - p1 / 1000 * 1000) / 10)).1) < 0 then false else true)) ?_ (fun hJ => ?_)
            · exact W.zret (ty := .boolean) (v := b2i (if ((sX1_buildField O ((p1 - p1 / 100000 * 100000) / 1000) ((p1 - p1 / 1000 * 1000) / 10)).1) < 0 then false else true)) hx hb hr (b2i_nar (if ((sX1_buildField O ((p1 - p1 / 100000 * 100000) / 1000) ((p1 - p1 / 1000 * 1000) / 10)).1) < 0 then false else true)) (fun t ht hW => ⟨⟨b2i (if ((sX1_buildField O ((p1 - p1 / 100000 * 100000) / 1000) ((p1 - p1 / 1000 * 1000) / 10)).1) < 0 then false else true), ((sX1_buildField O ((p1 - p1 / 100000 * 100000) / 1000) ((p1 - p1 / 1000 * 1000) / 10)).2), rfl, pairb_eq hv, pw ht hP⟩, hS.F ht⟩) hS.2.2 dX7_succeeds_218 (hlocks := hlocks)
            · refine lv_if_lt (tgt := 217) hx hb dX7_succeeds_210 (by decide) (fun c210 => ?_) (fun c210 => ?_)
              · refine lv_iconst (v := 0) hx hb dX7_succeeds_217 (by decide) ?_
                exact hJ _ (congrArg b2i ((if_pos c210).trans rfl))
              · refine lv_iconst (v := 1) hx hb dX7_succeeds_213 (by decide) ?_
                refine lv_goto (tgt := 218) hx hb dX7_succeeds_214 (by decide) ?_
                exact hJ _ (congrArg b2i ((if_neg c210).trans rfl))
        · have hv := (if_neg c57_3).symm.trans hv
          by_cases c57_4 : (p1 / 100000) = 5
          · have hv := (if_pos c57_4).symm.trans hv
            refine lv_tableIn (off := 162) (tgt := 219) hx hb dX7_succeeds_57 (by rw [c57_4]; decide) (by rw [c57_4]; decide) (by rw [c57_4]; rfl) (by decide) ?_
            refine lv_iload_n hx hb dX7_succeeds_219 rfl (lv_at hl 7 rfl) ?_
            refine lv_bipush (v := 100) hx hb dX7_succeeds_220 (by decide) ?_
            refine lv_icmp_ge (tgt := 238) hx hb dX7_succeeds_222 (by decide) (fun c222 => ?_) (fun c222 => ?_)
            · have hv := (if_pos c222).symm.trans hv
              refine lv_iconst (v := 0) hx hb dX7_succeeds_238 (by decide) ?_
              exact W.zret (ty := .boolean) (v := 0) hx hb hr (b2i_nar false) (fun t ht hW => ⟨⟨0, O, rfl, pairb_eq hv, pw ht hP⟩, hS.F ht⟩) hS.2.2 dX7_succeeds_239 (hlocks := hlocks)
            · have hv := (if_neg c222).symm.trans hv
              refine lv_aload_n hx hb dX7_succeeds_225 rfl (lv_at hl 8 rfl) ?_
              refine lv_iload hx hb dX7_succeeds_226 (lv_at hl 4 rfl) ?_
              refine w_i (sX1_passDays O (p1 - p1 / 100 * 100)) (va_runV (As := [.int (p1 - p1 / 100 * 100)]) (rest := []) ⟨hx, hb, hml, hown, hts⟩ (c_X1_passDays l D cs a O (p1 - p1 / 100 * 100) hd) (cwV 1 hts (good_V w_ml_X7_192 w_im_X1_passDays w_se_X1_passDays w_in_X1 w_co_X1_passDays) rfl rfl rfl ⟨rfl, hd_X1_passDays⟩ ⟨Nat.le_of_ble_eq_true rfl, Nat.le_of_ble_eq_true rfl⟩) (pe_W (C := RX1) (T := TX1) (N := 6) (ci := 1) (q0 := 0) hP hE rfl rfl) rfl rfl hl.1 rfl (lv_room (Nat.le_of_ble_eq_true rfl)) dX7_succeeds_228 ⟨Nat.zero_le _, Nat.zero_le _⟩) hS (fun _ _ h => h) (fun _ h => h) (fun t locs hB hz hk hS => ?_)
              have hP : va_P D vwC (ofW cs a ((sX1_passDays O (p1 - p1 / 100 * 100)).2)) t.heap := hB
              refine join_i (J := 239) (ls := ls) (rest := []) (b2i (if ((sX1_passDays O (p1 - p1 / 100 * 100)).1) < 0 then false else true)) ?_ (fun hJ => ?_)
              · exact W.zret (ty := .boolean) (v := b2i (if ((sX1_passDays O (p1 - p1 / 100 * 100)).1) < 0 then false else true)) hx hb hr (b2i_nar (if ((sX1_passDays O (p1 - p1 / 100 * 100)).1) < 0 then false else true)) (fun t ht hW => ⟨⟨b2i (if ((sX1_passDays O (p1 - p1 / 100 * 100)).1) < 0 then false else true), ((sX1_passDays O (p1 - p1 / 100 * 100)).2), rfl, pairb_eq hv, pw ht hP⟩, hS.F ht⟩) hS.2.2 dX7_succeeds_239 (hlocks := hlocks)
              · refine lv_if_lt (tgt := 238) hx hb dX7_succeeds_231 (by decide) (fun c231 => ?_) (fun c231 => ?_)
                · refine lv_iconst (v := 0) hx hb dX7_succeeds_238 (by decide) ?_
                  exact hJ _ (congrArg b2i ((if_pos c231).trans rfl))
                · refine lv_iconst (v := 1) hx hb dX7_succeeds_234 (by decide) ?_
                  refine lv_goto (tgt := 239) hx hb dX7_succeeds_235 (by decide) ?_
                  exact hJ _ (congrArg b2i ((if_neg c231).trans rfl))
          · have hv := (if_neg c57_4).symm.trans hv
            by_cases c57_5 : (p1 / 100000) = 6
            · have hv := (if_pos c57_5).symm.trans hv
              refine lv_tableIn (off := 183) (tgt := 240) hx hb dX7_succeeds_57 (by rw [c57_5]; decide) (by rw [c57_5]; decide) (by rw [c57_5]; rfl) (by decide) ?_
              refine lv_iload hx hb dX7_succeeds_240 (lv_at hl 5 rfl) ?_
              refine lv_if_ne (tgt := 258) hx hb dX7_succeeds_242 (by decide) (fun c242 => ?_) (fun c242 => ?_)
              · have hv := (if_neg c242).symm.trans hv
                refine lv_iconst (v := 0) hx hb dX7_succeeds_258 (by decide) ?_
                exact W.zret (ty := .boolean) (v := 0) hx hb hr (b2i_nar false) (fun t ht hW => ⟨⟨0, O, rfl, pairb_eq hv, pw ht hP⟩, hS.F ht⟩) hS.2.2 dX7_succeeds_259 (hlocks := hlocks)
              · have hv := (if_pos c242).symm.trans hv
                refine lv_aload_n hx hb dX7_succeeds_245 rfl (lv_at hl 8 rfl) ?_
                refine lv_iload hx hb dX7_succeeds_246 (lv_at hl 1 rfl) ?_
                refine w_i (sX1_takeBack O ((p1 - p1 / 100000 * 100000) / 1000)) (va_runV (As := [.int ((p1 - p1 / 100000 * 100000) / 1000)]) (rest := []) ⟨hx, hb, hml, hown, hts⟩ (c_X1_takeBack l D cs a O ((p1 - p1 / 100000 * 100000) / 1000) hd) (cwV 1 hts (good_V w_ml_X7_183 w_im_X1_takeBack w_se_X1_takeBack w_in_X1 w_co_X1_takeBack) rfl rfl rfl ⟨rfl, hd_X1_takeBack⟩ ⟨Nat.le_of_ble_eq_true rfl, Nat.le_of_ble_eq_true rfl⟩) (pe_W (C := RX1) (T := TX1) (N := 6) (ci := 1) (q0 := 0) hP hE rfl rfl) rfl rfl hl.1 rfl (lv_room (Nat.le_of_ble_eq_true rfl)) dX7_succeeds_248 ⟨Nat.zero_le _, Nat.zero_le _⟩) hS (fun _ _ h => h) (fun _ h => h) (fun t locs hB hz hk hS => ?_)
                have hP : va_P D vwC (ofW cs a ((sX1_takeBack O ((p1 - p1 / 100000 * 100000) / 1000)).2)) t.heap := hB
                refine join_i (J := 259) (ls := ls) (rest := []) (b2i (if ((sX1_takeBack O ((p1 - p1 / 100000 * 100000) / 1000)).1) < 0 then false else true)) ?_ (fun hJ => ?_)
                · exact W.zret (ty := .boolean) (v := b2i (if ((sX1_takeBack O ((p1 - p1 / 100000 * 100000) / 1000)).1) < 0 then false else true)) hx hb hr (b2i_nar (if ((sX1_takeBack O ((p1 - p1 / 100000 * 100000) / 1000)).1) < 0 then false else true)) (fun t ht hW => ⟨⟨b2i (if ((sX1_takeBack O ((p1 - p1 / 100000 * 100000) / 1000)).1) < 0 then false else true), ((sX1_takeBack O ((p1 - p1 / 100000 * 100000) / 1000)).2), rfl, pairb_eq hv, pw ht hP⟩, hS.F ht⟩) hS.2.2 dX7_succeeds_259 (hlocks := hlocks)
                · refine lv_if_lt (tgt := 258) hx hb dX7_succeeds_251 (by decide) (fun c251 => ?_) (fun c251 => ?_)
                  · refine lv_iconst (v := 0) hx hb dX7_succeeds_258 (by decide) ?_
                    exact hJ _ (congrArg b2i ((if_pos c251).trans rfl))
                  · refine lv_iconst (v := 1) hx hb dX7_succeeds_254 (by decide) ?_
                    refine lv_goto (tgt := 259) hx hb dX7_succeeds_255 (by decide) ?_
                    exact hJ _ (congrArg b2i ((if_neg c251).trans rfl))
            · have hv := (if_neg c57_5).symm.trans hv
              by_cases c57_6 : (p1 / 100000) = 7
              · have hv := (if_pos c57_6).symm.trans hv
                refine lv_tableIn (off := 203) (tgt := 260) hx hb dX7_succeeds_57 (by rw [c57_6]; decide) (by rw [c57_6]; decide) (by rw [c57_6]; rfl) (by decide) ?_
                refine lv_iload_n hx hb dX7_succeeds_260 rfl (lv_at hl 6 rfl) ?_
                refine lv_if_ne (tgt := 277) hx hb dX7_succeeds_261 (by decide) (fun c261 => ?_) (fun c261 => ?_)
                · have hv := (if_neg c261).symm.trans hv
                  refine lv_iconst (v := 0) hx hb dX7_succeeds_277 (by decide) ?_
                  exact W.zret (ty := .boolean) (v := 0) hx hb hr (b2i_nar false) (fun t ht hW => ⟨⟨0, O, rfl, pairb_eq hv, pw ht hP⟩, hS.F ht⟩) hS.2.2 dX7_succeeds_278 (hlocks := hlocks)
                · have hv := (if_pos c261).symm.trans hv
                  refine lv_aload_n hx hb dX7_succeeds_264 rfl (lv_at hl 8 rfl) ?_
                  refine lv_iload hx hb dX7_succeeds_265 (lv_at hl 2 rfl) ?_
                  refine w_i (sX1_checkSheet O ((p1 - p1 / 100000 * 100000) / 10000)) (va_runV (As := [.int ((p1 - p1 / 100000 * 100000) / 10000)]) (rest := []) ⟨hx, hb, hml, hown, hts⟩ (c_X1_checkSheet l D cs a O ((p1 - p1 / 100000 * 100000) / 10000) hd) (cwV 1 hts (good_V w_ml_X7_174 w_im_X1_checkSheet w_se_X1_checkSheet w_in_X1 w_co_X1_checkSheet) rfl rfl rfl ⟨rfl, hd_X1_checkSheet⟩ ⟨Nat.le_of_ble_eq_true rfl, Nat.le_of_ble_eq_true rfl⟩) (pe_W (C := RX1) (T := TX1) (N := 6) (ci := 1) (q0 := 0) hP hE rfl rfl) rfl rfl hl.1 rfl (lv_room (Nat.le_of_ble_eq_true rfl)) dX7_succeeds_267 ⟨Nat.zero_le _, Nat.zero_le _⟩) hS (fun _ _ h => h) (fun _ h => h) (fun t locs hB hz hk hS => ?_)
                  have hP : va_P D vwC (ofW cs a ((sX1_checkSheet O ((p1 - p1 / 100000 * 100000) / 10000)).2)) t.heap := hB
                  refine join_i (J := 278) (ls := ls) (rest := []) (b2i (if ((sX1_checkSheet O ((p1 - p1 / 100000 * 100000) / 10000)).1) < 0 then false else true)) ?_ (fun hJ => ?_)
                  · exact W.zret (ty := .boolean) (v := b2i (if ((sX1_checkSheet O ((p1 - p1 / 100000 * 100000) / 10000)).1) < 0 then false else true)) hx hb hr (b2i_nar (if ((sX1_checkSheet O ((p1 - p1 / 100000 * 100000) / 10000)).1) < 0 then false else true)) (fun t ht hW => ⟨⟨b2i (if ((sX1_checkSheet O ((p1 - p1 / 100000 * 100000) / 10000)).1) < 0 then false else true), ((sX1_checkSheet O ((p1 - p1 / 100000 * 100000) / 10000)).2), rfl, pairb_eq hv, pw ht hP⟩, hS.F ht⟩) hS.2.2 dX7_succeeds_278 (hlocks := hlocks)
                  · refine lv_if_lt (tgt := 277) hx hb dX7_succeeds_270 (by decide) (fun c270 => ?_) (fun c270 => ?_)
                    · refine lv_iconst (v := 0) hx hb dX7_succeeds_277 (by decide) ?_
                      exact hJ _ (congrArg b2i ((if_pos c270).trans rfl))
                    · refine lv_iconst (v := 1) hx hb dX7_succeeds_273 (by decide) ?_
                      refine lv_goto (tgt := 278) hx hb dX7_succeeds_274 (by decide) ?_
                      exact hJ _ (congrArg b2i ((if_neg c270).trans rfl))
              · have hv := (if_neg c57_6).symm.trans hv
                by_cases c57_7 : (p1 / 100000) = 8
                · have hv := (if_pos c57_7).symm.trans hv
                  refine lv_tableIn (off := 222) (tgt := 279) hx hb dX7_succeeds_57 (by rw [c57_7]; decide) (by rw [c57_7]; decide) (by rw [c57_7]; rfl) (by decide) ?_
                  refine lv_iload_n hx hb dX7_succeeds_279 rfl (lv_at hl 7 rfl) ?_
                  refine lv_bipush (v := 100) hx hb dX7_succeeds_280 (by decide) ?_
                  refine join_i (J := 301) (ls := ls) (rest := []) (b2i (if 100 ≤ (p1 - p1 / 100000 * 100000) then false else (if (p1 - p1 / 100 * 100) < (sX1_wrongWorks O (-1) (-1)) then false else true))) ?_ (fun hJ => ?_)
                  · exact W.zret (ty := .boolean) (v := b2i (if 100 ≤ (p1 - p1 / 100000 * 100000) then false else (if (p1 - p1 / 100 * 100) < (sX1_wrongWorks O (-1) (-1)) then false else true))) hx hb hr (b2i_nar (if 100 ≤ (p1 - p1 / 100000 * 100000) then false else (if (p1 - p1 / 100 * 100) < (sX1_wrongWorks O (-1) (-1)) then false else true))) (fun t ht hW => ⟨⟨b2i (if 100 ≤ (p1 - p1 / 100000 * 100000) then false else (if (p1 - p1 / 100 * 100) < (sX1_wrongWorks O (-1) (-1)) then false else true)), O, rfl, pairb_eq hv, pw ht hP⟩, hS.F ht⟩) hS.2.2 dX7_succeeds_301 (hlocks := hlocks)
                  · refine lv_icmp_ge (tgt := 300) hx hb dX7_succeeds_282 (by decide) (fun c282 => ?_) (fun c282 => ?_)
                    · refine lv_iconst (v := 0) hx hb dX7_succeeds_300 (by decide) ?_
                      exact hJ _ (congrArg b2i ((if_pos c282).trans rfl))
                    · refine lv_aload_n hx hb dX7_succeeds_285 rfl (lv_at hl 8 rfl) ?_
                      refine lv_iconst (v := (-1)) hx hb dX7_succeeds_286 (by decide) ?_
                      refine lv_iconst (v := (-1)) hx hb dX7_succeeds_287 (by decide) ?_
                      refine ro_i (sX1_wrongWorks O (-1) (-1)) (run_c (va_runV (As := [.int (-1), .int (-1)]) (rest := []) ⟨hx, hb, hml, hown, hts⟩ (c_X1_wrongWorks l D cs a O (-1) (-1)) (cwV 2 hts (good_V w_ml_X7_280 w_im_X1_wrongWorks w_se_X1_wrongWorks w_in_X1 w_co_X1_wrongWorks) rfl rfl rfl ⟨rfl, hd_X1_wrongWorks⟩ ⟨Nat.le_of_ble_eq_true rfl, Nat.le_of_ble_eq_true rfl⟩) (pe_W (C := RX1) (T := TX1) (N := 6) (ci := 1) (q0 := 0) hP hE rfl rfl) rfl rfl hl.1 rfl (lv_room (Nat.le_of_ble_eq_true rfl)) dX7_succeeds_288 ⟨Nat.zero_le _, Nat.zero_le _⟩)) ?_
                      refine lv_iload hx hb dX7_succeeds_291 (lv_at hl 4 rfl) ?_
                      refine lv_icmp_gt (tgt := 300) hx hb dX7_succeeds_293 (by decide) (fun c293 => ?_) (fun c293 => ?_)
                      · refine lv_iconst (v := 0) hx hb dX7_succeeds_300 (by decide) ?_
                        exact hJ _ (congrArg b2i ((if_neg c282).trans ((if_pos c293).trans rfl)))
                      · refine lv_iconst (v := 1) hx hb dX7_succeeds_296 (by decide) ?_
                        refine lv_goto (tgt := 301) hx hb dX7_succeeds_297 (by decide) ?_
                        exact hJ _ (congrArg b2i ((if_neg c282).trans ((if_neg c293).trans rfl)))
                · have hv := (if_neg c57_7).symm.trans hv
                  by_cases c57_8 : (p1 / 100000) = 9
                  · have hv := (if_pos c57_8).symm.trans hv
                    refine lv_tableIn (off := 245) (tgt := 302) hx hb dX7_succeeds_57 (by rw [c57_8]; decide) (by rw [c57_8]; decide) (by rw [c57_8]; rfl) (by decide) ?_
                    refine lv_iload hx hb dX7_succeeds_302 (lv_at hl 5 rfl) ?_
                    refine lv_iconst (v := 2) hx hb dX7_succeeds_304 (by decide) ?_
                    refine join_i (J := 345) (ls := ls) (rest := []) (b2i (if 2 ≤ (p1 - p1 / 1000 * 1000) then false else (if (sX3_has O ((p1 - p1 / 100000 * 100000) / 1000)) = true then (if (p1 - p1 / 10 * 10) = 1 then (if (b2i (sX1_mayBuildBy O ((p1 - p1 / 100000 * 100000) / 1000))) = 1 then true else false) else (if (b2i (sX1_mayBuildBy O ((p1 - p1 / 100000 * 100000) / 1000))) = 0 then true else false)) else false))) ?_ (fun hJ => ?_)
                    · exact W.zret (ty := .boolean) (v := b2i (if 2 ≤ (p1 - p1 / 1000 * 1000) then false else (if (sX3_has O ((p1 - p1 / 100000 * 100000) / 1000)) = true then (if (p1 - p1 / 10 * 10) = 1 then (if (b2i (sX1_mayBuildBy O ((p1 - p1 / 100000 * 100000) / 1000))) = 1 then true else false) else (if (b2i (sX1_mayBuildBy O ((p1 - p1 / 100000 * 100000) / 1000))) = 0 then true else false)) else false))) hx hb hr (b2i_nar (if 2 ≤ (p1 - p1 / 1000 * 1000) then false else (if (sX3_has O ((p1 - p1 / 100000 * 100000) / 1000)) = true then (if (p1 - p1 / 10 * 10) = 1 then (if (b2i (sX1_mayBuildBy O ((p1 - p1 / 100000 * 100000) / 1000))) = 1 then true else false) else (if (b2i (sX1_mayBuildBy O ((p1 - p1 / 100000 * 100000) / 1000))) = 0 then true else false)) else false))) (fun t ht hW => ⟨⟨b2i (if 2 ≤ (p1 - p1 / 1000 * 1000) then false else (if (sX3_has O ((p1 - p1 / 100000 * 100000) / 1000)) = true then (if (p1 - p1 / 10 * 10) = 1 then (if (b2i (sX1_mayBuildBy O ((p1 - p1 / 100000 * 100000) / 1000))) = 1 then true else false) else (if (b2i (sX1_mayBuildBy O ((p1 - p1 / 100000 * 100000) / 1000))) = 0 then true else false)) else false)), O, rfl, pairb_eq hv, pw ht hP⟩, hS.F ht⟩) hS.2.2 dX7_succeeds_345 (hlocks := hlocks)
                    · refine lv_icmp_ge (tgt := 344) hx hb dX7_succeeds_305 (by decide) (fun c305 => ?_) (fun c305 => ?_)
                      · refine lv_iconst (v := 0) hx hb dX7_succeeds_344 (by decide) ?_
                        exact hJ _ (congrArg b2i ((if_pos c305).trans rfl))
                      · refine lv_aload_n hx hb dX7_succeeds_308 rfl (lv_at hl 8 rfl) ?_
                        refine va_getN (D := D) (ci := 1) (v := .ref (a 2)) (C := RX1) (T := TX1) (N := 6) hx hb hts iw_X1 hown hK hP 0 rfl rfl 1 (by decide) (va_Nw.use rfl (hE.2.2 (123, "prints", "LTrueSheets$Prints;") (List.mem_of_getElem? (i := 1) rfl))) (fun _ h9 => h9) rfl dX7_succeeds_309 ?_
                        refine lv_iload hx hb dX7_succeeds_312 (lv_at hl 1 rfl) ?_
                        refine ro_i (b2i (sX3_has O ((p1 - p1 / 100000 * 100000) / 1000))) (run_c (va_runV (As := [.int ((p1 - p1 / 100000 * 100000) / 1000)]) (rest := []) ⟨hx, hb, hml, hown, hts⟩ (c_X3_has l D cs a O ((p1 - p1 / 100000 * 100000) / 1000)) (cwV 1 hts (good_V w_ml_X7_127 w_im_X3_has w_se_X3_has w_in_X3 w_co_X3_has) rfl rfl rfl ⟨rfl, hd_X3_has⟩ ⟨Nat.le_of_ble_eq_true rfl, Nat.le_of_ble_eq_true rfl⟩) (pe_W (C := RX3) (T := TX3) (N := 8) (ci := 3) (q0 := 2) hP hE rfl rfl) rfl rfl hl.1 rfl (lv_room (Nat.le_of_ble_eq_true rfl)) dX7_succeeds_314 ⟨Nat.zero_le _, Nat.zero_le _⟩)) ?_
                        refine lv_if_eq (tgt := 344) hx hb dX7_succeeds_317 (by decide) (fun c317 => ?_) (fun c317 => ?_)
                        · have c317 := b2i_f c317
                          refine lv_iconst (v := 0) hx hb dX7_succeeds_344 (by decide) ?_
                          exact hJ _ (congrArg b2i ((if_neg c305).trans ((if_neg c317).trans rfl)))
                        · have c317 := b2i_t c317
                          refine lv_aload_n hx hb dX7_succeeds_320 rfl (lv_at hl 8 rfl) ?_
                          refine lv_iload hx hb dX7_succeeds_321 (lv_at hl 1 rfl) ?_
                          refine ro_i (b2i (sX1_mayBuildBy O ((p1 - p1 / 100000 * 100000) / 1000))) (run_c (va_runV (As := [.int ((p1 - p1 / 100000 * 100000) / 1000)]) (rest := []) ⟨hx, hb, hml, hown, hts⟩ (c_X1_mayBuildBy l D cs a O ((p1 - p1 / 100000 * 100000) / 1000)) (cwV 1 hts (good_V w_ml_X7_334 w_im_X1_mayBuildBy w_se_X1_mayBuildBy w_in_X1 w_co_X1_mayBuildBy) rfl rfl rfl ⟨rfl, hd_X1_mayBuildBy⟩ ⟨Nat.le_of_ble_eq_true rfl, Nat.le_of_ble_eq_true rfl⟩) (pe_W (C := RX1) (T := TX1) (N := 6) (ci := 1) (q0 := 0) hP hE rfl rfl) rfl rfl hl.1 rfl (lv_room (Nat.le_of_ble_eq_true rfl)) dX7_succeeds_323 ⟨Nat.zero_le _, Nat.zero_le _⟩)) ?_
                          refine lv_iload hx hb dX7_succeeds_326 (lv_at hl 3 rfl) ?_
                          refine lv_iconst (v := 1) hx hb dX7_succeeds_328 (by decide) ?_
                          refine lv_icmp_ne (tgt := 336) hx hb dX7_succeeds_329 (by decide) (fun c329 => ?_) (fun c329 => ?_)
                          · refine lv_iconst (v := 0) hx hb dX7_succeeds_336 (by decide) ?_
                            refine lv_icmp_ne (tgt := 344) hx hb dX7_succeeds_337 (by decide) (fun c337 => ?_) (fun c337 => ?_)
                            · refine lv_iconst (v := 0) hx hb dX7_succeeds_344 (by decide) ?_
                              exact hJ _ (congrArg b2i ((if_neg c305).trans ((if_pos c317).trans ((if_neg c329).trans ((if_neg c337).trans rfl)))))
                            · refine lv_iconst (v := 1) hx hb dX7_succeeds_340 (by decide) ?_
                              refine lv_goto (tgt := 345) hx hb dX7_succeeds_341 (by decide) ?_
                              exact hJ _ (congrArg b2i ((if_neg c305).trans ((if_pos c317).trans ((if_neg c329).trans ((if_pos c337).trans rfl)))))
                          · refine lv_iconst (v := 1) hx hb dX7_succeeds_332 (by decide) ?_
                            refine lv_goto (tgt := 337) hx hb dX7_succeeds_333 (by decide) ?_
                            refine lv_icmp_ne (tgt := 344) hx hb dX7_succeeds_337 (by decide) (fun c337 => ?_) (fun c337 => ?_)
                            · refine lv_iconst (v := 0) hx hb dX7_succeeds_344 (by decide) ?_
                              exact hJ _ (congrArg b2i ((if_neg c305).trans ((if_pos c317).trans ((if_pos c329).trans ((if_neg c337).trans rfl)))))
                            · refine lv_iconst (v := 1) hx hb dX7_succeeds_340 (by decide) ?_
                              refine lv_goto (tgt := 345) hx hb dX7_succeeds_341 (by decide) ?_
                              exact hJ _ (congrArg b2i ((if_neg c305).trans ((if_pos c317).trans ((if_pos c329).trans ((if_pos c337).trans rfl)))))
                  · have hv := (if_neg c57_8).symm.trans hv
                    have e0 : (p1 / 100000).toInt ≠ 1 := sw_ne c57_0
                    have e1 : (p1 / 100000).toInt ≠ 2 := sw_ne c57_1
                    have e2 : (p1 / 100000).toInt ≠ 3 := sw_ne c57_2
                    have e3 : (p1 / 100000).toInt ≠ 4 := sw_ne c57_3
                    have e4 : (p1 / 100000).toInt ≠ 5 := sw_ne c57_4
                    have e5 : (p1 / 100000).toInt ≠ 6 := sw_ne c57_5
                    have e6 : (p1 / 100000).toInt ≠ 7 := sw_ne c57_6
                    have e7 : (p1 / 100000).toInt ≠ 8 := sw_ne c57_7
                    have e8 : (p1 / 100000).toInt ≠ 9 := sw_ne c57_8
                    refine lv_tableOut (tgt := 346) hx hb dX7_succeeds_57 (by omega) (by decide) ?_
                    refine lv_iconst (v := 0) hx hb dX7_succeeds_346 (by decide) ?_
                    exact W.zret (ty := .boolean) (v := 0) hx hb hr (b2i_nar false) (fun t ht hW => ⟨⟨0, O, rfl, pairb_eq hv, pw ht hP⟩, hS.F ht⟩) hS.2.2 dX7_succeeds_347 (hlocks := hlocks)
theorem hd_X7_takeTurn : yX7_takeTurn.cls ≠ "java/lang/invoke/MethodHandle" ∧ yX7_takeTurn.cls ≠ "java/lang/invoke/VarHandle" ∧ (parseMethodDescriptor yX7_takeTurn.desc).map (fun d => d.parameters.length) = some 2 := by decide +kernel
def sX7_takeTurn (O : OF) (p1 : Int32) : OF := (if (p1 - p1 / 16 * 16) = 0 then ((sX1_addSheet O ((p1 / 16) - (p1 / 16) / 10 * 10)).2) else (if (p1 - p1 / 16 * 16) = 1 then ((sX1_reviseSheet O ((p1 / 16) - (p1 / 16) / 10 * 10) (1 + ((p1 / 256) - (p1 / 256) / 4095 * 4095))).2) else (if (p1 - p1 / 16 * 16) = 2 then ((sX1_reviseSheet O ((p1 / 16) - (p1 / 16) / 10 * 10) (1 + ((p1 / 256) - (p1 / 256) / 4095 * 4095))).2) else (if (p1 - p1 / 16 * 16) = 3 then ((sX1_checkSheet O ((p1 / 16) - (p1 / 16) / 10 * 10)).2) else (if (p1 - p1 / 16 * 16) = 4 then ((sX1_addPrint O ((p1 / 16) - (p1 / 16) / 10 * 10) ((p1 / 256) - (p1 / 256) / 4 * 4)).2) else (if (p1 - p1 / 16 * 16) = 5 then ((sX1_addPrint O ((p1 / 16) - (p1 / 16) / 10 * 10) ((p1 / 256) - (p1 / 256) / 4 * 4)).2) else (if (p1 - p1 / 16 * 16) = 6 then ((sX1_addPrint O ((p1 / 16) - (p1 / 16) / 10 * 10) ((p1 / 256) - (p1 / 256) / 4 * 4)).2) else (if (p1 - p1 / 16 * 16) = 7 then ((sX1_stampPrint O ((p1 / 16) - (p1 / 16) / 24 * 24) ((p1 / 512) - (p1 / 512) / 3 * 3)).2) else (if (p1 - p1 / 16 * 16) = 8 then ((sX1_stampPrint O ((p1 / 16) - (p1 / 16) / 24 * 24) ((p1 / 512) - (p1 / 512) / 3 * 3)).2) else (if (p1 - p1 / 16 * 16) = 9 then ((sX1_takeBack O ((p1 / 16) - (p1 / 16) / 24 * 24)).2) else (if (p1 - p1 / 16 * 16) = 10 then ((sX1_buildField O ((p1 / 16) - (p1 / 16) / 24 * 24) ((p1 / 512) - (p1 / 512) / 12 * 12)).2) else (if (p1 - p1 / 16 * 16) = 11 then ((sX1_buildField O ((p1 / 16) - (p1 / 16) / 24 * 24) ((p1 / 512) - (p1 / 512) / 12 * 12)).2) else (if (p1 - p1 / 16 * 16) = 12 then ((sX1_buildField O ((p1 / 16) - (p1 / 16) / 24 * 24) ((p1 / 512) - (p1 / 512) / 12 * 12)).2) else (if (p1 - p1 / 16 * 16) = 13 then ((sX1_mendWork O ((p1 / 16) - (p1 / 16) / 30 * 30)).2) else ((sX1_passDays O (1 + ((p1 / 16) - (p1 / 16) / 5 * 5))).2)))))))))))))))
set_option maxHeartbeats 4000000 in
set_option maxRecDepth 100000 in
theorem c_X7_takeTurn (l : Launch) (D : va_G) (cs : Nat → ClassId) (a : Nat → Nat) (O : OF) (p1 : Int32) (hd : oD a) : Met l yX7_takeTurn (wc yX7_takeTurn cX7_takeTurn 3 none) ({ frames := 6, cells := 0, slots := 0, locals := 130 } : Room) (va_Pc [.ref (a 0), .int p1] (PE D cs (ofW cs a O))) (va_Qv (fun u : OF => u = (sX7_takeTurn O p1)) (fun u t => va_P D vwC (ofW cs a u) t.heap) (oA a)) 0 0 (oA a) := by
  obtain ⟨v, hv⟩ : ∃ v, sX7_takeTurn O p1 = v := ⟨_, rfl⟩
  rw [hv]
  refine met_o (lv := [(0, .ref (a 0)), (1, .int p1)]) (by decide) (Nat.le_of_ble_eq_true rfl) rfl ?_
  intro p e s m args below meth c ls hx hb hr hml hts hown hlocks hin hP hE hl
  have hown : s.vm.findClass RX7 = some m.cls := hown
  have hK := hE.1
  have hP : va_P D vwC (ofW cs a O) s.heap := hP
  have hS : va_S (oA a) s.heap s.heap [] := va_S.rf
  unfold sX7_takeTurn at hv
  refine lv_iload_n hx hb dX7_takeTurn_0 rfl (lv_at hl 1 rfl) ?_
  refine lv_bipush (v := 16) hx hb dX7_takeTurn_1 (by decide) ?_
  refine lv_idiv hx hb dX7_takeTurn_3 (by decide) ?_
  refine lv_istore_n (lv' := [(2, .int (p1 / 16)), (0, .ref (a 0)), (1, .int p1)]) hx hb dX7_takeTurn_4 rfl hl (by decide) rfl (fun ls hl => ?_)
  refine lv_iload_n hx hb dX7_takeTurn_5 rfl (lv_at hl 2 rfl) ?_
  refine lv_bipush (v := 16) hx hb dX7_takeTurn_6 (by decide) ?_
  refine lv_irem hx hb dX7_takeTurn_8 (by decide) ?_
  by_cases c9_0 : (p1 - p1 / 16 * 16) = 0
  · have hv := (if_pos c9_0).symm.trans hv
    refine lv_tableIn (off := 71) (tgt := 80) hx hb dX7_takeTurn_9 (by rw [c9_0]; decide) (by rw [c9_0]; decide) (by rw [c9_0]; rfl) (by decide) ?_
    refine lv_aload_n hx hb dX7_takeTurn_80 rfl (lv_at hl 1 rfl) ?_
    refine lv_iload_n hx hb dX7_takeTurn_81 rfl (lv_at hl 0 rfl) ?_
    refine lv_bipush (v := 10) hx hb dX7_takeTurn_82 (by decide) ?_
    refine lv_irem hx hb dX7_takeTurn_84 (by decide) ?_
    refine w_i (sX1_addSheet O ((p1 / 16) - (p1 / 16) / 10 * 10)) (va_runV (As := [.int ((p1 / 16) - (p1 / 16) / 10 * 10)]) (rest := []) ⟨hx, hb, hml, hown, hts⟩ (c_X1_addSheet l D cs a O ((p1 / 16) - (p1 / 16) / 10 * 10) hd) (cwV 1 hts (good_V w_ml_X7_165 w_im_X1_addSheet w_se_X1_addSheet w_in_X1 w_co_X1_addSheet) rfl rfl rfl ⟨rfl, hd_X1_addSheet⟩ ⟨Nat.le_of_ble_eq_true rfl, Nat.le_of_ble_eq_true rfl⟩) (pe_W (C := RX1) (T := TX1) (N := 6) (ci := 1) (q0 := 0) hP hE rfl rfl) rfl rfl hl.1 rfl (lv_room (Nat.le_of_ble_eq_true rfl)) dX7_takeTurn_85 ⟨Nat.zero_le _, Nat.zero_le _⟩) hS (fun _ _ h => h) (fun _ h => h) (fun t locs hB hz hk hS => ?_)
    have hP : va_P D vwC (ofW cs a ((sX1_addSheet O ((p1 / 16) - (p1 / 16) / 10 * 10)).2)) t.heap := hB
    refine lv_pop hx hb dX7_takeTurn_88 rfl ?_
    refine lv_goto (tgt := 219) hx hb dX7_takeTurn_89 (by decide) ?_
    exact W.vret hx hb hr (fun t ht hW => ⟨⟨((sX1_addSheet O ((p1 / 16) - (p1 / 16) / 10 * 10)).2), rfl, hv, pw ht hP⟩, hS.F ht⟩) hS.2.2 dX7_takeTurn_219 (hlocks := hlocks)
  · have hv := (if_neg c9_0).symm.trans hv
    by_cases c9_1 : (p1 - p1 / 16 * 16) = 1
    · have hv := (if_pos c9_1).symm.trans hv
      refine lv_tableIn (off := 83) (tgt := 92) hx hb dX7_takeTurn_9 (by rw [c9_1]; decide) (by rw [c9_1]; decide) (by rw [c9_1]; rfl) (by decide) ?_
      refine lv_aload_n hx hb dX7_takeTurn_92 rfl (lv_at hl 1 rfl) ?_
      refine lv_iload_n hx hb dX7_takeTurn_93 rfl (lv_at hl 0 rfl) ?_
      refine lv_bipush (v := 10) hx hb dX7_takeTurn_94 (by decide) ?_
      refine lv_irem hx hb dX7_takeTurn_96 (by decide) ?_
      refine lv_iconst (v := 1) hx hb dX7_takeTurn_97 (by decide) ?_
      refine lv_iload_n hx hb dX7_takeTurn_98 rfl (lv_at hl 2 rfl) ?_
      refine lv_sipush (v := 256) hx hb dX7_takeTurn_99 (by decide) ?_
      refine lv_idiv hx hb dX7_takeTurn_102 (by decide) ?_
      refine lv_sipush (v := 4095) hx hb dX7_takeTurn_103 (by decide) ?_
      refine lv_irem hx hb dX7_takeTurn_106 (by decide) ?_
      refine lv_iadd hx hb dX7_takeTurn_107 ?_
      refine w_i (sX1_reviseSheet O ((p1 / 16) - (p1 / 16) / 10 * 10) (1 + ((p1 / 256) - (p1 / 256) / 4095 * 4095))) (va_runV (As := [.int ((p1 / 16) - (p1 / 16) / 10 * 10), .int (1 + ((p1 / 256) - (p1 / 256) / 4095 * 4095))]) (rest := []) ⟨hx, hb, hml, hown, hts⟩ (c_X1_reviseSheet l D cs a O ((p1 / 16) - (p1 / 16) / 10 * 10) (1 + ((p1 / 256) - (p1 / 256) / 4095 * 4095)) hd) (cwV 2 hts (good_V w_ml_X7_171 w_im_X1_reviseSheet w_se_X1_reviseSheet w_in_X1 w_co_X1_reviseSheet) rfl rfl rfl ⟨rfl, hd_X1_reviseSheet⟩ ⟨Nat.le_of_ble_eq_true rfl, Nat.le_of_ble_eq_true rfl⟩) (pe_W (C := RX1) (T := TX1) (N := 6) (ci := 1) (q0 := 0) hP hE rfl rfl) rfl rfl hl.1 rfl (lv_room (Nat.le_of_ble_eq_true rfl)) dX7_takeTurn_108 ⟨Nat.zero_le _, Nat.zero_le _⟩) hS (fun _ _ h => h) (fun _ h => h) (fun t locs hB hz hk hS => ?_)
      have hP : va_P D vwC (ofW cs a ((sX1_reviseSheet O ((p1 / 16) - (p1 / 16) / 10 * 10) (1 + ((p1 / 256) - (p1 / 256) / 4095 * 4095))).2)) t.heap := hB
      refine lv_pop hx hb dX7_takeTurn_111 rfl ?_
      refine lv_goto (tgt := 219) hx hb dX7_takeTurn_112 (by decide) ?_
      exact W.vret hx hb hr (fun t ht hW => ⟨⟨((sX1_reviseSheet O ((p1 / 16) - (p1 / 16) / 10 * 10) (1 + ((p1 / 256) - (p1 / 256) / 4095 * 4095))).2), rfl, hv, pw ht hP⟩, hS.F ht⟩) hS.2.2 dX7_takeTurn_219 (hlocks := hlocks)
    · have hv := (if_neg c9_1).symm.trans hv
      by_cases c9_2 : (p1 - p1 / 16 * 16) = 2
      · have hv := (if_pos c9_2).symm.trans hv
        refine lv_tableIn (off := 83) (tgt := 92) hx hb dX7_takeTurn_9 (by rw [c9_2]; decide) (by rw [c9_2]; decide) (by rw [c9_2]; rfl) (by decide) ?_
        refine lv_aload_n hx hb dX7_takeTurn_92 rfl (lv_at hl 1 rfl) ?_
        refine lv_iload_n hx hb dX7_takeTurn_93 rfl (lv_at hl 0 rfl) ?_
        refine lv_bipush (v := 10) hx hb dX7_takeTurn_94 (by decide) ?_
        refine lv_irem hx hb dX7_takeTurn_96 (by decide) ?_
        refine lv_iconst (v := 1) hx hb dX7_takeTurn_97 (by decide) ?_
        refine lv_iload_n hx hb dX7_takeTurn_98 rfl (lv_at hl 2 rfl) ?_
        refine lv_sipush (v := 256) hx hb dX7_takeTurn_99 (by decide) ?_
        refine lv_idiv hx hb dX7_takeTurn_102 (by decide) ?_
        refine lv_sipush (v := 4095) hx hb dX7_takeTurn_103 (by decide) ?_
        refine lv_irem hx hb dX7_takeTurn_106 (by decide) ?_
        refine lv_iadd hx hb dX7_takeTurn_107 ?_
        refine w_i (sX1_reviseSheet O ((p1 / 16) - (p1 / 16) / 10 * 10) (1 + ((p1 / 256) - (p1 / 256) / 4095 * 4095))) (va_runV (As := [.int ((p1 / 16) - (p1 / 16) / 10 * 10), .int (1 + ((p1 / 256) - (p1 / 256) / 4095 * 4095))]) (rest := []) ⟨hx, hb, hml, hown, hts⟩ (c_X1_reviseSheet l D cs a O ((p1 / 16) - (p1 / 16) / 10 * 10) (1 + ((p1 / 256) - (p1 / 256) / 4095 * 4095)) hd) (cwV 2 hts (good_V w_ml_X7_171 w_im_X1_reviseSheet w_se_X1_reviseSheet w_in_X1 w_co_X1_reviseSheet) rfl rfl rfl ⟨rfl, hd_X1_reviseSheet⟩ ⟨Nat.le_of_ble_eq_true rfl, Nat.le_of_ble_eq_true rfl⟩) (pe_W (C := RX1) (T := TX1) (N := 6) (ci := 1) (q0 := 0) hP hE rfl rfl) rfl rfl hl.1 rfl (lv_room (Nat.le_of_ble_eq_true rfl)) dX7_takeTurn_108 ⟨Nat.zero_le _, Nat.zero_le _⟩) hS (fun _ _ h => h) (fun _ h => h) (fun t locs hB hz hk hS => ?_)
        have hP : va_P D vwC (ofW cs a ((sX1_reviseSheet O ((p1 / 16) - (p1 / 16) / 10 * 10) (1 + ((p1 / 256) - (p1 / 256) / 4095 * 4095))).2)) t.heap := hB
        refine lv_pop hx hb dX7_takeTurn_111 rfl ?_
        refine lv_goto (tgt := 219) hx hb dX7_takeTurn_112 (by decide) ?_
        exact W.vret hx hb hr (fun t ht hW => ⟨⟨((sX1_reviseSheet O ((p1 / 16) - (p1 / 16) / 10 * 10) (1 + ((p1 / 256) - (p1 / 256) / 4095 * 4095))).2), rfl, hv, pw ht hP⟩, hS.F ht⟩) hS.2.2 dX7_takeTurn_219 (hlocks := hlocks)
      · have hv := (if_neg c9_2).symm.trans hv
        by_cases c9_3 : (p1 - p1 / 16 * 16) = 3
        · have hv := (if_pos c9_3).symm.trans hv
          refine lv_tableIn (off := 106) (tgt := 115) hx hb dX7_takeTurn_9 (by rw [c9_3]; decide) (by rw [c9_3]; decide) (by rw [c9_3]; rfl) (by decide) ?_
          refine lv_aload_n hx hb dX7_takeTurn_115 rfl (lv_at hl 1 rfl) ?_
          refine lv_iload_n hx hb dX7_takeTurn_116 rfl (lv_at hl 0 rfl) ?_
          refine lv_bipush (v := 10) hx hb dX7_takeTurn_117 (by decide) ?_
          refine lv_irem hx hb dX7_takeTurn_119 (by decide) ?_
          refine w_i (sX1_checkSheet O ((p1 / 16) - (p1 / 16) / 10 * 10)) (va_runV (As := [.int ((p1 / 16) - (p1 / 16) / 10 * 10)]) (rest := []) ⟨hx, hb, hml, hown, hts⟩ (c_X1_checkSheet l D cs a O ((p1 / 16) - (p1 / 16) / 10 * 10) hd) (cwV 1 hts (good_V w_ml_X7_174 w_im_X1_checkSheet w_se_X1_checkSheet w_in_X1 w_co_X1_checkSheet) rfl rfl rfl ⟨rfl, hd_X1_checkSheet⟩ ⟨Nat.le_of_ble_eq_true rfl, Nat.le_of_ble_eq_true rfl⟩) (pe_W (C := RX1) (T := TX1) (N := 6) (ci := 1) (q0 := 0) hP hE rfl rfl) rfl rfl hl.1 rfl (lv_room (Nat.le_of_ble_eq_true rfl)) dX7_takeTurn_120 ⟨Nat.zero_le _, Nat.zero_le _⟩) hS (fun _ _ h => h) (fun _ h => h) (fun t locs hB hz hk hS => ?_)
          have hP : va_P D vwC (ofW cs a ((sX1_checkSheet O ((p1 / 16) - (p1 / 16) / 10 * 10)).2)) t.heap := hB
          refine lv_pop hx hb dX7_takeTurn_123 rfl ?_
          refine lv_goto (tgt := 219) hx hb dX7_takeTurn_124 (by decide) ?_
          exact W.vret hx hb hr (fun t ht hW => ⟨⟨((sX1_checkSheet O ((p1 / 16) - (p1 / 16) / 10 * 10)).2), rfl, hv, pw ht hP⟩, hS.F ht⟩) hS.2.2 dX7_takeTurn_219 (hlocks := hlocks)
        · have hv := (if_neg c9_3).symm.trans hv
          by_cases c9_4 : (p1 - p1 / 16 * 16) = 4
          · have hv := (if_pos c9_4).symm.trans hv
            refine lv_tableIn (off := 118) (tgt := 127) hx hb dX7_takeTurn_9 (by rw [c9_4]; decide) (by rw [c9_4]; decide) (by rw [c9_4]; rfl) (by decide) ?_
            refine lv_aload_n hx hb dX7_takeTurn_127 rfl (lv_at hl 1 rfl) ?_
            refine lv_iload_n hx hb dX7_takeTurn_128 rfl (lv_at hl 0 rfl) ?_
            refine lv_bipush (v := 10) hx hb dX7_takeTurn_129 (by decide) ?_
            refine lv_irem hx hb dX7_takeTurn_131 (by decide) ?_
            refine lv_iload_n hx hb dX7_takeTurn_132 rfl (lv_at hl 2 rfl) ?_
            refine lv_sipush (v := 256) hx hb dX7_takeTurn_133 (by decide) ?_
            refine lv_idiv hx hb dX7_takeTurn_136 (by decide) ?_
            refine lv_iconst (v := 4) hx hb dX7_takeTurn_137 (by decide) ?_
            refine lv_irem hx hb dX7_takeTurn_138 (by decide) ?_
            refine w_i (sX1_addPrint O ((p1 / 16) - (p1 / 16) / 10 * 10) ((p1 / 256) - (p1 / 256) / 4 * 4)) (va_runV (As := [.int ((p1 / 16) - (p1 / 16) / 10 * 10), .int ((p1 / 256) - (p1 / 256) / 4 * 4)]) (rest := []) ⟨hx, hb, hml, hown, hts⟩ (c_X1_addPrint l D cs a O ((p1 / 16) - (p1 / 16) / 10 * 10) ((p1 / 256) - (p1 / 256) / 4 * 4) hd) (cwV 2 hts (good_V w_ml_X7_177 w_im_X1_addPrint w_se_X1_addPrint w_in_X1 w_co_X1_addPrint) rfl rfl rfl ⟨rfl, hd_X1_addPrint⟩ ⟨Nat.le_of_ble_eq_true rfl, Nat.le_of_ble_eq_true rfl⟩) (pe_W (C := RX1) (T := TX1) (N := 6) (ci := 1) (q0 := 0) hP hE rfl rfl) rfl rfl hl.1 rfl (lv_room (Nat.le_of_ble_eq_true rfl)) dX7_takeTurn_139 ⟨Nat.zero_le _, Nat.zero_le _⟩) hS (fun _ _ h => h) (fun _ h => h) (fun t locs hB hz hk hS => ?_)
            have hP : va_P D vwC (ofW cs a ((sX1_addPrint O ((p1 / 16) - (p1 / 16) / 10 * 10) ((p1 / 256) - (p1 / 256) / 4 * 4)).2)) t.heap := hB
            refine lv_pop hx hb dX7_takeTurn_142 rfl ?_
            refine lv_goto (tgt := 219) hx hb dX7_takeTurn_143 (by decide) ?_
            exact W.vret hx hb hr (fun t ht hW => ⟨⟨((sX1_addPrint O ((p1 / 16) - (p1 / 16) / 10 * 10) ((p1 / 256) - (p1 / 256) / 4 * 4)).2), rfl, hv, pw ht hP⟩, hS.F ht⟩) hS.2.2 dX7_takeTurn_219 (hlocks := hlocks)
          · have hv := (if_neg c9_4).symm.trans hv
            by_cases c9_5 : (p1 - p1 / 16 * 16) = 5
            · have hv := (if_pos c9_5).symm.trans hv
              refine lv_tableIn (off := 118) (tgt := 127) hx hb dX7_takeTurn_9 (by rw [c9_5]; decide) (by rw [c9_5]; decide) (by rw [c9_5]; rfl) (by decide) ?_
              refine lv_aload_n hx hb dX7_takeTurn_127 rfl (lv_at hl 1 rfl) ?_
              refine lv_iload_n hx hb dX7_takeTurn_128 rfl (lv_at hl 0 rfl) ?_
              refine lv_bipush (v := 10) hx hb dX7_takeTurn_129 (by decide) ?_
              refine lv_irem hx hb dX7_takeTurn_131 (by decide) ?_
              refine lv_iload_n hx hb dX7_takeTurn_132 rfl (lv_at hl 2 rfl) ?_
              refine lv_sipush (v := 256) hx hb dX7_takeTurn_133 (by decide) ?_
              refine lv_idiv hx hb dX7_takeTurn_136 (by decide) ?_
              refine lv_iconst (v := 4) hx hb dX7_takeTurn_137 (by decide) ?_
              refine lv_irem hx hb dX7_takeTurn_138 (by decide) ?_
              refine w_i (sX1_addPrint O ((p1 / 16) - (p1 / 16) / 10 * 10) ((p1 / 256) - (p1 / 256) / 4 * 4)) (va_runV (As := [.int ((p1 / 16) - (p1 / 16) / 10 * 10), .int ((p1 / 256) - (p1 / 256) / 4 * 4)]) (rest := []) ⟨hx, hb, hml, hown, hts⟩ (c_X1_addPrint l D cs a O ((p1 / 16) - (p1 / 16) / 10 * 10) ((p1 / 256) - (p1 / 256) / 4 * 4) hd) (cwV 2 hts (good_V w_ml_X7_177 w_im_X1_addPrint w_se_X1_addPrint w_in_X1 w_co_X1_addPrint) rfl rfl rfl ⟨rfl, hd_X1_addPrint⟩ ⟨Nat.le_of_ble_eq_true rfl, Nat.le_of_ble_eq_true rfl⟩) (pe_W (C := RX1) (T := TX1) (N := 6) (ci := 1) (q0 := 0) hP hE rfl rfl) rfl rfl hl.1 rfl (lv_room (Nat.le_of_ble_eq_true rfl)) dX7_takeTurn_139 ⟨Nat.zero_le _, Nat.zero_le _⟩) hS (fun _ _ h => h) (fun _ h => h) (fun t locs hB hz hk hS => ?_)
              have hP : va_P D vwC (ofW cs a ((sX1_addPrint O ((p1 / 16) - (p1 / 16) / 10 * 10) ((p1 / 256) - (p1 / 256) / 4 * 4)).2)) t.heap := hB
              refine lv_pop hx hb dX7_takeTurn_142 rfl ?_
              refine lv_goto (tgt := 219) hx hb dX7_takeTurn_143 (by decide) ?_
              exact W.vret hx hb hr (fun t ht hW => ⟨⟨((sX1_addPrint O ((p1 / 16) - (p1 / 16) / 10 * 10) ((p1 / 256) - (p1 / 256) / 4 * 4)).2), rfl, hv, pw ht hP⟩, hS.F ht⟩) hS.2.2 dX7_takeTurn_219 (hlocks := hlocks)
            · have hv := (if_neg c9_5).symm.trans hv
              by_cases c9_6 : (p1 - p1 / 16 * 16) = 6
              · have hv := (if_pos c9_6).symm.trans hv
                refine lv_tableIn (off := 118) (tgt := 127) hx hb dX7_takeTurn_9 (by rw [c9_6]; decide) (by rw [c9_6]; decide) (by rw [c9_6]; rfl) (by decide) ?_
                refine lv_aload_n hx hb dX7_takeTurn_127 rfl (lv_at hl 1 rfl) ?_
                refine lv_iload_n hx hb dX7_takeTurn_128 rfl (lv_at hl 0 rfl) ?_
                refine lv_bipush (v := 10) hx hb dX7_takeTurn_129 (by decide) ?_
                refine lv_irem hx hb dX7_takeTurn_131 (by decide) ?_
                refine lv_iload_n hx hb dX7_takeTurn_132 rfl (lv_at hl 2 rfl) ?_
                refine lv_sipush (v := 256) hx hb dX7_takeTurn_133 (by decide) ?_
                refine lv_idiv hx hb dX7_takeTurn_136 (by decide) ?_
                refine lv_iconst (v := 4) hx hb dX7_takeTurn_137 (by decide) ?_
                refine lv_irem hx hb dX7_takeTurn_138 (by decide) ?_
                refine w_i (sX1_addPrint O ((p1 / 16) - (p1 / 16) / 10 * 10) ((p1 / 256) - (p1 / 256) / 4 * 4)) (va_runV (As := [.int ((p1 / 16) - (p1 / 16) / 10 * 10), .int ((p1 / 256) - (p1 / 256) / 4 * 4)]) (rest := []) ⟨hx, hb, hml, hown, hts⟩ (c_X1_addPrint l D cs a O ((p1 / 16) - (p1 / 16) / 10 * 10) ((p1 / 256) - (p1 / 256) / 4 * 4) hd) (cwV 2 hts (good_V w_ml_X7_177 w_im_X1_addPrint w_se_X1_addPrint w_in_X1 w_co_X1_addPrint) rfl rfl rfl ⟨rfl, hd_X1_addPrint⟩ ⟨Nat.le_of_ble_eq_true rfl, Nat.le_of_ble_eq_true rfl⟩) (pe_W (C := RX1) (T := TX1) (N := 6) (ci := 1) (q0 := 0) hP hE rfl rfl) rfl rfl hl.1 rfl (lv_room (Nat.le_of_ble_eq_true rfl)) dX7_takeTurn_139 ⟨Nat.zero_le _, Nat.zero_le _⟩) hS (fun _ _ h => h) (fun _ h => h) (fun t locs hB hz hk hS => ?_)
                have hP : va_P D vwC (ofW cs a ((sX1_addPrint O ((p1 / 16) - (p1 / 16) / 10 * 10) ((p1 / 256) - (p1 / 256) / 4 * 4)).2)) t.heap := hB
                refine lv_pop hx hb dX7_takeTurn_142 rfl ?_
                refine lv_goto (tgt := 219) hx hb dX7_takeTurn_143 (by decide) ?_
                exact W.vret hx hb hr (fun t ht hW => ⟨⟨((sX1_addPrint O ((p1 / 16) - (p1 / 16) / 10 * 10) ((p1 / 256) - (p1 / 256) / 4 * 4)).2), rfl, hv, pw ht hP⟩, hS.F ht⟩) hS.2.2 dX7_takeTurn_219 (hlocks := hlocks)
              · have hv := (if_neg c9_6).symm.trans hv
                by_cases c9_7 : (p1 - p1 / 16 * 16) = 7
                · have hv := (if_pos c9_7).symm.trans hv
                  refine lv_tableIn (off := 137) (tgt := 146) hx hb dX7_takeTurn_9 (by rw [c9_7]; decide) (by rw [c9_7]; decide) (by rw [c9_7]; rfl) (by decide) ?_
                  refine lv_aload_n hx hb dX7_takeTurn_146 rfl (lv_at hl 1 rfl) ?_
                  refine lv_iload_n hx hb dX7_takeTurn_147 rfl (lv_at hl 0 rfl) ?_
                  refine lv_bipush (v := 24) hx hb dX7_takeTurn_148 (by decide) ?_
                  refine lv_irem hx hb dX7_takeTurn_150 (by decide) ?_
                  refine lv_iload_n hx hb dX7_takeTurn_151 rfl (lv_at hl 2 rfl) ?_
                  refine lv_sipush (v := 512) hx hb dX7_takeTurn_152 (by decide) ?_
                  refine lv_idiv hx hb dX7_takeTurn_155 (by decide) ?_
                  refine lv_iconst (v := 3) hx hb dX7_takeTurn_156 (by decide) ?_
                  refine lv_irem hx hb dX7_takeTurn_157 (by decide) ?_
                  refine w_i (sX1_stampPrint O ((p1 / 16) - (p1 / 16) / 24 * 24) ((p1 / 512) - (p1 / 512) / 3 * 3)) (va_runV (As := [.int ((p1 / 16) - (p1 / 16) / 24 * 24), .int ((p1 / 512) - (p1 / 512) / 3 * 3)]) (rest := []) ⟨hx, hb, hml, hown, hts⟩ (c_X1_stampPrint l D cs a O ((p1 / 16) - (p1 / 16) / 24 * 24) ((p1 / 512) - (p1 / 512) / 3 * 3) hd) (cwV 2 hts (good_V w_ml_X7_180 w_im_X1_stampPrint w_se_X1_stampPrint w_in_X1 w_co_X1_stampPrint) rfl rfl rfl ⟨rfl, hd_X1_stampPrint⟩ ⟨Nat.le_of_ble_eq_true rfl, Nat.le_of_ble_eq_true rfl⟩) (pe_W (C := RX1) (T := TX1) (N := 6) (ci := 1) (q0 := 0) hP hE rfl rfl) rfl rfl hl.1 rfl (lv_room (Nat.le_of_ble_eq_true rfl)) dX7_takeTurn_158 ⟨Nat.zero_le _, Nat.zero_le _⟩) hS (fun _ _ h => h) (fun _ h => h) (fun t locs hB hz hk hS => ?_)
                  have hP : va_P D vwC (ofW cs a ((sX1_stampPrint O ((p1 / 16) - (p1 / 16) / 24 * 24) ((p1 / 512) - (p1 / 512) / 3 * 3)).2)) t.heap := hB
                  refine lv_pop hx hb dX7_takeTurn_161 rfl ?_
                  refine lv_goto (tgt := 219) hx hb dX7_takeTurn_162 (by decide) ?_
                  exact W.vret hx hb hr (fun t ht hW => ⟨⟨((sX1_stampPrint O ((p1 / 16) - (p1 / 16) / 24 * 24) ((p1 / 512) - (p1 / 512) / 3 * 3)).2), rfl, hv, pw ht hP⟩, hS.F ht⟩) hS.2.2 dX7_takeTurn_219 (hlocks := hlocks)
                · have hv := (if_neg c9_7).symm.trans hv
                  by_cases c9_8 : (p1 - p1 / 16 * 16) = 8
                  · have hv := (if_pos c9_8).symm.trans hv
                    refine lv_tableIn (off := 137) (tgt := 146) hx hb dX7_takeTurn_9 (by rw [c9_8]; decide) (by rw [c9_8]; decide) (by rw [c9_8]; rfl) (by decide) ?_
                    refine lv_aload_n hx hb dX7_takeTurn_146 rfl (lv_at hl 1 rfl) ?_
                    refine lv_iload_n hx hb dX7_takeTurn_147 rfl (lv_at hl 0 rfl) ?_
                    refine lv_bipush (v := 24) hx hb dX7_takeTurn_148 (by decide) ?_
                    refine lv_irem hx hb dX7_takeTurn_150 (by decide) ?_
                    refine lv_iload_n hx hb dX7_takeTurn_151 rfl (lv_at hl 2 rfl) ?_
                    refine lv_sipush (v := 512) hx hb dX7_takeTurn_152 (by decide) ?_
                    refine lv_idiv hx hb dX7_takeTurn_155 (by decide) ?_
                    refine lv_iconst (v := 3) hx hb dX7_takeTurn_156 (by decide) ?_
                    refine lv_irem hx hb dX7_takeTurn_157 (by decide) ?_
                    refine w_i (sX1_stampPrint O ((p1 / 16) - (p1 / 16) / 24 * 24) ((p1 / 512) - (p1 / 512) / 3 * 3)) (va_runV (As := [.int ((p1 / 16) - (p1 / 16) / 24 * 24), .int ((p1 / 512) - (p1 / 512) / 3 * 3)]) (rest := []) ⟨hx, hb, hml, hown, hts⟩ (c_X1_stampPrint l D cs a O ((p1 / 16) - (p1 / 16) / 24 * 24) ((p1 / 512) - (p1 / 512) / 3 * 3) hd) (cwV 2 hts (good_V w_ml_X7_180 w_im_X1_stampPrint w_se_X1_stampPrint w_in_X1 w_co_X1_stampPrint) rfl rfl rfl ⟨rfl, hd_X1_stampPrint⟩ ⟨Nat.le_of_ble_eq_true rfl, Nat.le_of_ble_eq_true rfl⟩) (pe_W (C := RX1) (T := TX1) (N := 6) (ci := 1) (q0 := 0) hP hE rfl rfl) rfl rfl hl.1 rfl (lv_room (Nat.le_of_ble_eq_true rfl)) dX7_takeTurn_158 ⟨Nat.zero_le _, Nat.zero_le _⟩) hS (fun _ _ h => h) (fun _ h => h) (fun t locs hB hz hk hS => ?_)
                    have hP : va_P D vwC (ofW cs a ((sX1_stampPrint O ((p1 / 16) - (p1 / 16) / 24 * 24) ((p1 / 512) - (p1 / 512) / 3 * 3)).2)) t.heap := hB
                    refine lv_pop hx hb dX7_takeTurn_161 rfl ?_
                    refine lv_goto (tgt := 219) hx hb dX7_takeTurn_162 (by decide) ?_
                    exact W.vret hx hb hr (fun t ht hW => ⟨⟨((sX1_stampPrint O ((p1 / 16) - (p1 / 16) / 24 * 24) ((p1 / 512) - (p1 / 512) / 3 * 3)).2), rfl, hv, pw ht hP⟩, hS.F ht⟩) hS.2.2 dX7_takeTurn_219 (hlocks := hlocks)
                  · have hv := (if_neg c9_8).symm.trans hv
                    by_cases c9_9 : (p1 - p1 / 16 * 16) = 9
                    · have hv := (if_pos c9_9).symm.trans hv
                      refine lv_tableIn (off := 156) (tgt := 165) hx hb dX7_takeTurn_9 (by rw [c9_9]; decide) (by rw [c9_9]; decide) (by rw [c9_9]; rfl) (by decide) ?_
                      refine lv_aload_n hx hb dX7_takeTurn_165 rfl (lv_at hl 1 rfl) ?_
                      refine lv_iload_n hx hb dX7_takeTurn_166 rfl (lv_at hl 0 rfl) ?_
                      refine lv_bipush (v := 24) hx hb dX7_takeTurn_167 (by decide) ?_
                      refine lv_irem hx hb dX7_takeTurn_169 (by decide) ?_
                      refine w_i (sX1_takeBack O ((p1 / 16) - (p1 / 16) / 24 * 24)) (va_runV (As := [.int ((p1 / 16) - (p1 / 16) / 24 * 24)]) (rest := []) ⟨hx, hb, hml, hown, hts⟩ (c_X1_takeBack l D cs a O ((p1 / 16) - (p1 / 16) / 24 * 24) hd) (cwV 1 hts (good_V w_ml_X7_183 w_im_X1_takeBack w_se_X1_takeBack w_in_X1 w_co_X1_takeBack) rfl rfl rfl ⟨rfl, hd_X1_takeBack⟩ ⟨Nat.le_of_ble_eq_true rfl, Nat.le_of_ble_eq_true rfl⟩) (pe_W (C := RX1) (T := TX1) (N := 6) (ci := 1) (q0 := 0) hP hE rfl rfl) rfl rfl hl.1 rfl (lv_room (Nat.le_of_ble_eq_true rfl)) dX7_takeTurn_170 ⟨Nat.zero_le _, Nat.zero_le _⟩) hS (fun _ _ h => h) (fun _ h => h) (fun t locs hB hz hk hS => ?_)
                      have hP : va_P D vwC (ofW cs a ((sX1_takeBack O ((p1 / 16) - (p1 / 16) / 24 * 24)).2)) t.heap := hB
                      refine lv_pop hx hb dX7_takeTurn_173 rfl ?_
                      refine lv_goto (tgt := 219) hx hb dX7_takeTurn_174 (by decide) ?_
                      exact W.vret hx hb hr (fun t ht hW => ⟨⟨((sX1_takeBack O ((p1 / 16) - (p1 / 16) / 24 * 24)).2), rfl, hv, pw ht hP⟩, hS.F ht⟩) hS.2.2 dX7_takeTurn_219 (hlocks := hlocks)
                    · have hv := (if_neg c9_9).symm.trans hv
                      by_cases c9_10 : (p1 - p1 / 16 * 16) = 10
                      · have hv := (if_pos c9_10).symm.trans hv
                        refine lv_tableIn (off := 168) (tgt := 177) hx hb dX7_takeTurn_9 (by rw [c9_10]; decide) (by rw [c9_10]; decide) (by rw [c9_10]; rfl) (by decide) ?_
                        refine lv_aload_n hx hb dX7_takeTurn_177 rfl (lv_at hl 1 rfl) ?_
                        refine lv_iload_n hx hb dX7_takeTurn_178 rfl (lv_at hl 0 rfl) ?_
                        refine lv_bipush (v := 24) hx hb dX7_takeTurn_179 (by decide) ?_
                        refine lv_irem hx hb dX7_takeTurn_181 (by decide) ?_
                        refine lv_iload_n hx hb dX7_takeTurn_182 rfl (lv_at hl 2 rfl) ?_
                        refine lv_sipush (v := 512) hx hb dX7_takeTurn_183 (by decide) ?_
                        refine lv_idiv hx hb dX7_takeTurn_186 (by decide) ?_
                        refine lv_bipush (v := 12) hx hb dX7_takeTurn_187 (by decide) ?_
                        refine lv_irem hx hb dX7_takeTurn_189 (by decide) ?_
                        refine w_i (sX1_buildField O ((p1 / 16) - (p1 / 16) / 24 * 24) ((p1 / 512) - (p1 / 512) / 12 * 12)) (va_runV (As := [.int ((p1 / 16) - (p1 / 16) / 24 * 24), .int ((p1 / 512) - (p1 / 512) / 12 * 12)]) (rest := []) ⟨hx, hb, hml, hown, hts⟩ (c_X1_buildField l D cs a O ((p1 / 16) - (p1 / 16) / 24 * 24) ((p1 / 512) - (p1 / 512) / 12 * 12) hd) (cwV 2 hts (good_V w_ml_X7_186 w_im_X1_buildField w_se_X1_buildField w_in_X1 w_co_X1_buildField) rfl rfl rfl ⟨rfl, hd_X1_buildField⟩ ⟨Nat.le_of_ble_eq_true rfl, Nat.le_of_ble_eq_true rfl⟩) (pe_W (C := RX1) (T := TX1) (N := 6) (ci := 1) (q0 := 0) hP hE rfl rfl) rfl rfl hl.1 rfl (lv_room (Nat.le_of_ble_eq_true rfl)) dX7_takeTurn_190 ⟨Nat.zero_le _, Nat.zero_le _⟩) hS (fun _ _ h => h) (fun _ h => h) (fun t locs hB hz hk hS => ?_)
                        have hP : va_P D vwC (ofW cs a ((sX1_buildField O ((p1 / 16) - (p1 / 16) / 24 * 24) ((p1 / 512) - (p1 / 512) / 12 * 12)).2)) t.heap := hB
                        refine lv_pop hx hb dX7_takeTurn_193 rfl ?_
                        refine lv_goto (tgt := 219) hx hb dX7_takeTurn_194 (by decide) ?_
                        exact W.vret hx hb hr (fun t ht hW => ⟨⟨((sX1_buildField O ((p1 / 16) - (p1 / 16) / 24 * 24) ((p1 / 512) - (p1 / 512) / 12 * 12)).2), rfl, hv, pw ht hP⟩, hS.F ht⟩) hS.2.2 dX7_takeTurn_219 (hlocks := hlocks)
                      · have hv := (if_neg c9_10).symm.trans hv
                        by_cases c9_11 : (p1 - p1 / 16 * 16) = 11
                        · have hv := (if_pos c9_11).symm.trans hv
                          refine lv_tableIn (off := 168) (tgt := 177) hx hb dX7_takeTurn_9 (by rw [c9_11]; decide) (by rw [c9_11]; decide) (by rw [c9_11]; rfl) (by decide) ?_
                          refine lv_aload_n hx hb dX7_takeTurn_177 rfl (lv_at hl 1 rfl) ?_
                          refine lv_iload_n hx hb dX7_takeTurn_178 rfl (lv_at hl 0 rfl) ?_
                          refine lv_bipush (v := 24) hx hb dX7_takeTurn_179 (by decide) ?_
                          refine lv_irem hx hb dX7_takeTurn_181 (by decide) ?_
                          refine lv_iload_n hx hb dX7_takeTurn_182 rfl (lv_at hl 2 rfl) ?_
                          refine lv_sipush (v := 512) hx hb dX7_takeTurn_183 (by decide) ?_
                          refine lv_idiv hx hb dX7_takeTurn_186 (by decide) ?_
                          refine lv_bipush (v := 12) hx hb dX7_takeTurn_187 (by decide) ?_
                          refine lv_irem hx hb dX7_takeTurn_189 (by decide) ?_
                          refine w_i (sX1_buildField O ((p1 / 16) - (p1 / 16) / 24 * 24) ((p1 / 512) - (p1 / 512) / 12 * 12)) (va_runV (As := [.int ((p1 / 16) - (p1 / 16) / 24 * 24), .int ((p1 / 512) - (p1 / 512) / 12 * 12)]) (rest := []) ⟨hx, hb, hml, hown, hts⟩ (c_X1_buildField l D cs a O ((p1 / 16) - (p1 / 16) / 24 * 24) ((p1 / 512) - (p1 / 512) / 12 * 12) hd) (cwV 2 hts (good_V w_ml_X7_186 w_im_X1_buildField w_se_X1_buildField w_in_X1 w_co_X1_buildField) rfl rfl rfl ⟨rfl, hd_X1_buildField⟩ ⟨Nat.le_of_ble_eq_true rfl, Nat.le_of_ble_eq_true rfl⟩) (pe_W (C := RX1) (T := TX1) (N := 6) (ci := 1) (q0 := 0) hP hE rfl rfl) rfl rfl hl.1 rfl (lv_room (Nat.le_of_ble_eq_true rfl)) dX7_takeTurn_190 ⟨Nat.zero_le _, Nat.zero_le _⟩) hS (fun _ _ h => h) (fun _ h => h) (fun t locs hB hz hk hS => ?_)
                          have hP : va_P D vwC (ofW cs a ((sX1_buildField O ((p1 / 16) - (p1 / 16) / 24 * 24) ((p1 / 512) - (p1 / 512) / 12 * 12)).2)) t.heap := hB
                          refine lv_pop hx hb dX7_takeTurn_193 rfl ?_
                          refine lv_goto (tgt := 219) hx hb dX7_takeTurn_194 (by decide) ?_
                          exact W.vret hx hb hr (fun t ht hW => ⟨⟨((sX1_buildField O ((p1 / 16) - (p1 / 16) / 24 * 24) ((p1 / 512) - (p1 / 512) / 12 * 12)).2), rfl, hv, pw ht hP⟩, hS.F ht⟩) hS.2.2 dX7_takeTurn_219 (hlocks := hlocks)
                        · have hv := (if_neg c9_11).symm.trans hv
                          by_cases c9_12 : (p1 - p1 / 16 * 16) = 12
                          · have hv := (if_pos c9_12).symm.trans hv
                            refine lv_tableIn (off := 168) (tgt := 177) hx hb dX7_takeTurn_9 (by rw [c9_12]; decide) (by rw [c9_12]; decide) (by rw [c9_12]; rfl) (by decide) ?_
                            refine lv_aload_n hx hb dX7_takeTurn_177 rfl (lv_at hl 1 rfl) ?_
                            refine lv_iload_n hx hb dX7_takeTurn_178 rfl (lv_at hl 0 rfl) ?_
                            refine lv_bipush (v := 24) hx hb dX7_takeTurn_179 (by decide) ?_
                            refine lv_irem hx hb dX7_takeTurn_181 (by decide) ?_
                            refine lv_iload_n hx hb dX7_takeTurn_182 rfl (lv_at hl 2 rfl) ?_
                            refine lv_sipush (v := 512) hx hb dX7_takeTurn_183 (by decide) ?_
                            refine lv_idiv hx hb dX7_takeTurn_186 (by decide) ?_
                            refine lv_bipush (v := 12) hx hb dX7_takeTurn_187 (by decide) ?_
                            refine lv_irem hx hb dX7_takeTurn_189 (by decide) ?_
                            refine w_i (sX1_buildField O ((p1 / 16) - (p1 / 16) / 24 * 24) ((p1 / 512) - (p1 / 512) / 12 * 12)) (va_runV (As := [.int ((p1 / 16) - (p1 / 16) / 24 * 24), .int ((p1 / 512) - (p1 / 512) / 12 * 12)]) (rest := []) ⟨hx, hb, hml, hown, hts⟩ (c_X1_buildField l D cs a O ((p1 / 16) - (p1 / 16) / 24 * 24) ((p1 / 512) - (p1 / 512) / 12 * 12) hd) (cwV 2 hts (good_V w_ml_X7_186 w_im_X1_buildField w_se_X1_buildField w_in_X1 w_co_X1_buildField) rfl rfl rfl ⟨rfl, hd_X1_buildField⟩ ⟨Nat.le_of_ble_eq_true rfl, Nat.le_of_ble_eq_true rfl⟩) (pe_W (C := RX1) (T := TX1) (N := 6) (ci := 1) (q0 := 0) hP hE rfl rfl) rfl rfl hl.1 rfl (lv_room (Nat.le_of_ble_eq_true rfl)) dX7_takeTurn_190 ⟨Nat.zero_le _, Nat.zero_le _⟩) hS (fun _ _ h => h) (fun _ h => h) (fun t locs hB hz hk hS => ?_)
                            have hP : va_P D vwC (ofW cs a ((sX1_buildField O ((p1 / 16) - (p1 / 16) / 24 * 24) ((p1 / 512) - (p1 / 512) / 12 * 12)).2)) t.heap := hB
                            refine lv_pop hx hb dX7_takeTurn_193 rfl ?_
                            refine lv_goto (tgt := 219) hx hb dX7_takeTurn_194 (by decide) ?_
                            exact W.vret hx hb hr (fun t ht hW => ⟨⟨((sX1_buildField O ((p1 / 16) - (p1 / 16) / 24 * 24) ((p1 / 512) - (p1 / 512) / 12 * 12)).2), rfl, hv, pw ht hP⟩, hS.F ht⟩) hS.2.2 dX7_takeTurn_219 (hlocks := hlocks)
                          · have hv := (if_neg c9_12).symm.trans hv
                            by_cases c9_13 : (p1 - p1 / 16 * 16) = 13
                            · have hv := (if_pos c9_13).symm.trans hv
                              refine lv_tableIn (off := 188) (tgt := 197) hx hb dX7_takeTurn_9 (by rw [c9_13]; decide) (by rw [c9_13]; decide) (by rw [c9_13]; rfl) (by decide) ?_
                              refine lv_aload_n hx hb dX7_takeTurn_197 rfl (lv_at hl 1 rfl) ?_
                              refine lv_iload_n hx hb dX7_takeTurn_198 rfl (lv_at hl 0 rfl) ?_
                              refine lv_bipush (v := 30) hx hb dX7_takeTurn_199 (by decide) ?_
                              refine lv_irem hx hb dX7_takeTurn_201 (by decide) ?_
                              refine w_i (sX1_mendWork O ((p1 / 16) - (p1 / 16) / 30 * 30)) (va_runV (As := [.int ((p1 / 16) - (p1 / 16) / 30 * 30)]) (rest := []) ⟨hx, hb, hml, hown, hts⟩ (c_X1_mendWork l D cs a O ((p1 / 16) - (p1 / 16) / 30 * 30) hd) (cwV 1 hts (good_V w_ml_X7_189 w_im_X1_mendWork w_se_X1_mendWork w_in_X1 w_co_X1_mendWork) rfl rfl rfl ⟨rfl, hd_X1_mendWork⟩ ⟨Nat.le_of_ble_eq_true rfl, Nat.le_of_ble_eq_true rfl⟩) (pe_W (C := RX1) (T := TX1) (N := 6) (ci := 1) (q0 := 0) hP hE rfl rfl) rfl rfl hl.1 rfl (lv_room (Nat.le_of_ble_eq_true rfl)) dX7_takeTurn_202 ⟨Nat.zero_le _, Nat.zero_le _⟩) hS (fun _ _ h => h) (fun _ h => h) (fun t locs hB hz hk hS => ?_)
                              have hP : va_P D vwC (ofW cs a ((sX1_mendWork O ((p1 / 16) - (p1 / 16) / 30 * 30)).2)) t.heap := hB
                              refine lv_pop hx hb dX7_takeTurn_205 rfl ?_
                              refine lv_goto (tgt := 219) hx hb dX7_takeTurn_206 (by decide) ?_
                              exact W.vret hx hb hr (fun t ht hW => ⟨⟨((sX1_mendWork O ((p1 / 16) - (p1 / 16) / 30 * 30)).2), rfl, hv, pw ht hP⟩, hS.F ht⟩) hS.2.2 dX7_takeTurn_219 (hlocks := hlocks)
                            · have hv := (if_neg c9_13).symm.trans hv
                              have e0 : (p1 - p1 / 16 * 16).toInt ≠ 0 := sw_ne c9_0
                              have e1 : (p1 - p1 / 16 * 16).toInt ≠ 1 := sw_ne c9_1
                              have e2 : (p1 - p1 / 16 * 16).toInt ≠ 2 := sw_ne c9_2
                              have e3 : (p1 - p1 / 16 * 16).toInt ≠ 3 := sw_ne c9_3
                              have e4 : (p1 - p1 / 16 * 16).toInt ≠ 4 := sw_ne c9_4
                              have e5 : (p1 - p1 / 16 * 16).toInt ≠ 5 := sw_ne c9_5
                              have e6 : (p1 - p1 / 16 * 16).toInt ≠ 6 := sw_ne c9_6
                              have e7 : (p1 - p1 / 16 * 16).toInt ≠ 7 := sw_ne c9_7
                              have e8 : (p1 - p1 / 16 * 16).toInt ≠ 8 := sw_ne c9_8
                              have e9 : (p1 - p1 / 16 * 16).toInt ≠ 9 := sw_ne c9_9
                              have e10 : (p1 - p1 / 16 * 16).toInt ≠ 10 := sw_ne c9_10
                              have e11 : (p1 - p1 / 16 * 16).toInt ≠ 11 := sw_ne c9_11
                              have e12 : (p1 - p1 / 16 * 16).toInt ≠ 12 := sw_ne c9_12
                              have e13 : (p1 - p1 / 16 * 16).toInt ≠ 13 := sw_ne c9_13
                              refine lv_tableOut (tgt := 209) hx hb dX7_takeTurn_9 (by omega) (by decide) ?_
                              refine lv_aload_n hx hb dX7_takeTurn_209 rfl (lv_at hl 1 rfl) ?_
                              refine lv_iconst (v := 1) hx hb dX7_takeTurn_210 (by decide) ?_
                              refine lv_iload_n hx hb dX7_takeTurn_211 rfl (lv_at hl 0 rfl) ?_
                              refine lv_iconst (v := 5) hx hb dX7_takeTurn_212 (by decide) ?_
                              refine lv_irem hx hb dX7_takeTurn_213 (by decide) ?_
                              refine lv_iadd hx hb dX7_takeTurn_214 ?_
                              refine w_i (sX1_passDays O (1 + ((p1 / 16) - (p1 / 16) / 5 * 5))) (va_runV (As := [.int (1 + ((p1 / 16) - (p1 / 16) / 5 * 5))]) (rest := []) ⟨hx, hb, hml, hown, hts⟩ (c_X1_passDays l D cs a O (1 + ((p1 / 16) - (p1 / 16) / 5 * 5)) hd) (cwV 1 hts (good_V w_ml_X7_192 w_im_X1_passDays w_se_X1_passDays w_in_X1 w_co_X1_passDays) rfl rfl rfl ⟨rfl, hd_X1_passDays⟩ ⟨Nat.le_of_ble_eq_true rfl, Nat.le_of_ble_eq_true rfl⟩) (pe_W (C := RX1) (T := TX1) (N := 6) (ci := 1) (q0 := 0) hP hE rfl rfl) rfl rfl hl.1 rfl (lv_room (Nat.le_of_ble_eq_true rfl)) dX7_takeTurn_215 ⟨Nat.zero_le _, Nat.zero_le _⟩) hS (fun _ _ h => h) (fun _ h => h) (fun t locs hB hz hk hS => ?_)
                              have hP : va_P D vwC (ofW cs a ((sX1_passDays O (1 + ((p1 / 16) - (p1 / 16) / 5 * 5))).2)) t.heap := hB
                              refine lv_pop hx hb dX7_takeTurn_218 rfl ?_
                              exact W.vret hx hb hr (fun t ht hW => ⟨⟨((sX1_passDays O (1 + ((p1 / 16) - (p1 / 16) / 5 * 5))).2), rfl, hv, pw ht hP⟩, hS.F ht⟩) hS.2.2 dX7_takeTurn_219 (hlocks := hlocks)
theorem hd_X7_runScript : yX7_runScript.cls ≠ "java/lang/invoke/MethodHandle" ∧ yX7_runScript.cls ≠ "java/lang/invoke/VarHandle" ∧ (parseMethodDescriptor yX7_runScript.desc).map (fun d => d.parameters.length) = some 2 := by decide +kernel
def LX7_runScript_61 (Os : Nat → OF) (T : OF) (p1 : Int32) (p2 : Int64) : Nat → Int32 → (Nat → OF) → OF → Nat × Int32 × TSt
  | 0 => fun _ _ _ => (0, 0, (Os, T))
  | n + 1 => fun x4 Os9 T9 => (if p1 ≤ x4 then (0, (-1), (Os9, T9)) else (if ((sX7_succeeds (Os9 1) (((sX7_groupsDropped p2 ((p1 - 1) - x4)) - (sX7_groupsDropped p2 ((p1 - 1) - x4)) / (1000000 : Int64) * (1000000 : Int64)).toInt32)).1) = true then (LX7_runScript_61 Os T p1 p2 n (x4 + 1) (va_up Os9 1 ((sX7_succeeds (Os9 1) (((sX7_groupsDropped p2 ((p1 - 1) - x4)) - (sX7_groupsDropped p2 ((p1 - 1) - x4)) / (1000000 : Int64) * (1000000 : Int64)).toInt32)).2)) T9) else (0, x4, ((va_up Os9 1 ((sX7_succeeds (Os9 1) (((sX7_groupsDropped p2 ((p1 - 1) - x4)) - (sX7_groupsDropped p2 ((p1 - 1) - x4)) / (1000000 : Int64) * (1000000 : Int64)).toInt32)).2)), T9))))
theorem LX7_runScript_61_eq (Os : Nat → OF) (T : OF) (p1 : Int32) (p2 : Int64) (n : Nat) (x4 : Int32) (Os9 : (Nat → OF)) (T9 : OF) : LX7_runScript_61 Os T p1 p2 (n + 1) x4 Os9 T9 = (if p1 ≤ x4 then (0, (-1), (Os9, T9)) else (if ((sX7_succeeds (Os9 1) (((sX7_groupsDropped p2 ((p1 - 1) - x4)) - (sX7_groupsDropped p2 ((p1 - 1) - x4)) / (1000000 : Int64) * (1000000 : Int64)).toInt32)).1) = true then (LX7_runScript_61 Os T p1 p2 n (x4 + 1) (va_up Os9 1 ((sX7_succeeds (Os9 1) (((sX7_groupsDropped p2 ((p1 - 1) - x4)) - (sX7_groupsDropped p2 ((p1 - 1) - x4)) / (1000000 : Int64) * (1000000 : Int64)).toInt32)).2)) T9) else (0, x4, ((va_up Os9 1 ((sX7_succeeds (Os9 1) (((sX7_groupsDropped p2 ((p1 - 1) - x4)) - (sX7_groupsDropped p2 ((p1 - 1) - x4)) / (1000000 : Int64) * (1000000 : Int64)).toInt32)).2)), T9)))) := rfl
def sX7_runScript (Os : Nat → OF) (T : OF) (p1 : Int32) (p2 : Int64) : Nat × Int32 × TSt := (if p1 < 1 then (1, 0, (Os, T)) else (if p1 ≤ 3 then (if (lg_cmp p2 (0 : Int64)) < 0 then (1, 0, (Os, T)) else (if (lg_cmp (sX7_groupsDropped p2 p1) (0 : Int64)) = 0 then (LX7_runScript_61 Os T p1 p2 (upM p1 0 + 1) 0 (va_up Os 1 (sX1_copyFrom (Os 1) (Os 0))) T) else (1, 0, (Os, T)))) else (1, 0, (Os, T))))
set_option maxHeartbeats 4000000 in
set_option maxRecDepth 100000 in
theorem c_X7_runScript (l : Launch) (D : va_G) (cs : Nat → ClassId) (z : Nat → Nat) (A : Nat → Nat → Nat) (adK adV : Nat → Nat) (Os : Nat → OF) (T : OF) (p1 : Int32) (p2 : Int64) (hd : tD z A) (hlst : l.stackTraces = false) : vx_Met l yX7_runScript (wc yX7_runScript cX7_runScript 6 (some .int)) ({ frames := 7, cells := 1, slots := 6, locals := 159 } : Room) (va_Pc [.ref (z 0), .int p1, .long p2] (TE D cs z A adK adV Os T)) (xwQ D cs z A (sX7_runScript Os T p1 p2)) (xwX D cs z A (sX7_runScript Os T p1 p2)) 1 6 (tA z A) := by
  obtain ⟨v, hv⟩ : ∃ v, sX7_runScript Os T p1 p2 = v := ⟨_, rfl⟩
  rw [hv]
  refine met_x (lv := [(0, .ref (z 0)), (1, .int p1), (2, .long p2)]) (by decide) (Nat.le_of_ble_eq_true rfl) rfl ?_
  intro p e s m args below meth c ls hx hb hr hml hts hown hlocks hout hB0 hl
  obtain ⟨⟨hT, hE⟩, hXE⟩ := hB0
  have hown : s.vm.findClass RX7 = some m.cls := hown
  have hK := hE.1
  have hS : va_S (tA z A) s.heap s.heap [] := va_S.rf
  unfold sX7_runScript at hv
  refine lv_iload_n hx hb dX7_runScript_0 rfl (lv_at hl 1 rfl) ?_
  refine lv_iconst (v := 1) hx hb dX7_runScript_1 (by decide) ?_
  refine lv_icmp_lt (tgt := 10) hx hb dX7_runScript_2 (by decide) (fun c2 => ?_) (fun c2 => ?_)
  · have hv := (if_pos c2).symm.trans hv
    obtain ⟨sa, hsa⟩ := hXE.2.2.2.2 (253, "a script has 1 to 3 commands") (List.mem_of_getElem? (i := 18) rfl)
    exact thr_1 hx hb hlst hown hts hXE hsa hS (by rw [hml]; exact hl.1) dX7_runScript_10 dX7_runScript_13 dX7_runScript_14 dX7_runScript_16 dX7_runScript_19 hout (Nat.le_of_ble_eq_true rfl) (Nat.le_of_ble_eq_true rfl) (Nat.le_of_ble_eq_true rfl) (Nat.le_of_ble_eq_true rfl) hlocks (xc_w (k := 1) (by decide) hv hT hS) hS.2.2 (Nat.le_of_ble_eq_true rfl) (Nat.le_of_ble_eq_true rfl)
  · have hv := (if_neg c2).symm.trans hv
    refine lv_iload_n hx hb dX7_runScript_5 rfl (lv_at hl 1 rfl) ?_
    refine lv_iconst (v := 3) hx hb dX7_runScript_6 (by decide) ?_
    refine lv_icmp_le (tgt := 20) hx hb dX7_runScript_7 (by decide) (fun c7 => ?_) (fun c7 => ?_)
    · have hv := (if_pos c7).symm.trans hv
      refine lv_lload_n hx hb dX7_runScript_20 rfl (lv_at hl 2 rfl) ?_
      refine lv_lconst (v := 0) hx hb dX7_runScript_21 (by decide) ?_
      refine W.lcmp hx hb dX7_runScript_22 ?_
      refine lv_if_lt (tgt := 36) hx hb dX7_runScript_23 (by decide) (fun c23 => ?_) (fun c23 => ?_)
      · have hv := (if_pos c23).symm.trans hv
        obtain ⟨sa, hsa⟩ := hXE.2.2.2.2 (259, "a script has at most six digits a command") (List.mem_of_getElem? (i := 19) rfl)
        exact thr_1w hx hb hlst hown hts hXE hsa hS (by rw [hml]; exact hl.1) dX7_runScript_36 dX7_runScript_39 dX7_runScript_40 dX7_runScript_43 dX7_runScript_46 hout (Nat.le_of_ble_eq_true rfl) (Nat.le_of_ble_eq_true rfl) (Nat.le_of_ble_eq_true rfl) (Nat.le_of_ble_eq_true rfl) hlocks (xc_w (k := 1) (by decide) hv hT hS) hS.2.2 (Nat.le_of_ble_eq_true rfl) (Nat.le_of_ble_eq_true rfl)
      · have hv := (if_neg c23).symm.trans hv
        refine lv_lload_n hx hb dX7_runScript_26 rfl (lv_at hl 2 rfl) ?_
        refine lv_iload_n hx hb dX7_runScript_27 rfl (lv_at hl 1 rfl) ?_
        refine ro_l (sX7_groupsDropped p2 p1) (run_c (va_runS (As := [.long p2, .int p1]) (rest := []) ⟨hx, hb, hml, hown, hts⟩ (c_X7_groupsDropped l D cs p2 p1) (cwS 2 hts (good_S w_ml_X7_255 w_st_X7_groupsDropped w_in_X7 w_co_X7_groupsDropped) rfl rfl rfl ⟨rfl, hd_X7_groupsDropped⟩ ⟨Nat.le_of_ble_eq_true rfl, Nat.le_of_ble_eq_true rfl⟩) (pe_S (p_nil D _) hE) rfl rfl hl.1 rfl (lv_room (Nat.le_of_ble_eq_true rfl)) dX7_runScript_28 ⟨Nat.le_of_ble_eq_true rfl, Nat.le_of_ble_eq_true rfl⟩)) ?_
        refine lv_lconst (v := 0) hx hb dX7_runScript_31 (by decide) ?_
        refine W.lcmp hx hb dX7_runScript_32 ?_
        refine lv_if_eq (tgt := 47) hx hb dX7_runScript_33 (by decide) (fun c33 => ?_) (fun c33 => ?_)
        · have hv := (if_pos c33).symm.trans hv
          refine lv_aload_n hx hb dX7_runScript_47 rfl (lv_at hl 0 rfl) ?_
          refine va_get (D := D) (ci := 7) (v := .ref (A 1 0)) (C := RX7) (T := TX7) (N := 5) hx hb hts iw_X7 hown hK hT.1 0 rfl rfl 2 (by decide) (hts _ w_fl_X7_23) (fun _ h9 => h9) rfl dX7_runScript_48 ?_
          refine lv_aload_n hx hb dX7_runScript_51 rfl (lv_at hl 0 rfl) ?_
          refine va_get (D := D) (ci := 7) (v := .ref (A 0 0)) (C := RX7) (T := TX7) (N := 5) hx hb hts iw_X7 hown hK hT.1 0 rfl rfl 1 (by decide) (hts _ w_fl_X7_19) (fun _ h9 => h9) rfl dX7_runScript_52 ?_
          refine w_v (sX1_copyFrom (Os 1) (Os 0)) (va_runV (As := [.ref (A 0 0)]) (rest := []) ⟨hx, hb, hml, hown, hts⟩ (c_X1_copyFrom l D cs (A 1) (A 0) (Os 1) (Os 0) (hd.o2 (by decide) (by decide) (by decide))) (cwV 1 hts (good_V w_ml_X7_261 w_im_X1_copyFrom w_se_X1_copyFrom w_in_X1 w_co_X1_copyFrom) rfl rfl rfl ⟨rfl, hd_X1_copyFrom⟩ ⟨Nat.le_of_ble_eq_true rfl, Nat.le_of_ble_eq_true rfl⟩) (pe_W (C := RX1) (T := TX1) (N := 6) (ci := 1) (q0 := 0) (va_P.app (hT.2 1 (by decide)) (hT.2 0 (by decide))) hE rfl rfl) rfl rfl hl.1 rfl (lv_room (Nat.le_of_ble_eq_true rfl)) dX7_runScript_55 ⟨Nat.le_of_ble_eq_true rfl, Nat.le_of_ble_eq_true rfl⟩) hS (fun _ _ h => h.elim (fun h => Or.inr ⟨1, by decide, h⟩) (fun h => Or.inr ⟨0, by decide, h⟩)) (fun _ h => h.elim (fun h => Or.inr ⟨1, by decide, h⟩) (fun h => Or.inr ⟨0, by decide, h⟩)) (fun t locs hB hz hk hS => ?_)
          have hT : tsP D cs z A (va_up Os 1 (sX1_copyFrom (Os 1) (Os 0))) T t.heap := t_cp hd hT (by decide) (by decide) rfl hk hB
          refine lv_iconst (v := 0) hx hb dX7_runScript_58 (by decide) ?_
          refine lv_istore (lv' := [(4, .int 0), (0, .ref (z 0)), (1, .int p1), (2, .long p2)]) hx hb dX7_runScript_59 hl (by decide) rfl (fun ls hl => ?_)
          have LOOP : ∀ (n : Nat) (x4 : Int32) (Os9 : (Nat → OF)) (T9 : OF), upM p1 x4 < n → LX7_runScript_61 Os T p1 p2 n x4 Os9 T9 = v → ∀ (H : Heap) (locs : List Loc), tsP D cs z A Os9 T9 H → va_S (tA z A) s.heap H locs → ∀ ls : Array Slot, lv_has ls 6 [(0, .ref (z 0)), (1, .int p1), (2, .long p2), (4, .int x4)] → W p l e ({ frames := 7, cells := 1, slots := 6, locals := 159 } : Room) s m args below meth c H locs 0 0 (vx_MQ below (xwQ D cs z A v) (xwX D cs z A v) args s 1 6 (tA z A)) (F0 m 61 ls []) := by
            clear hv hT
            intro n
            induction n with
            | zero => intro x4 Os9 T9 hm; exact absurd hm (Nat.not_lt_zero _)
            | succ n ih =>
              intro x4 Os9 T9 hm hv H locs hT hS ls hl
              have hv := (LX7_runScript_61_eq Os T p1 p2 n x4 Os9 T9).symm.trans hv
              refine lv_iload hx hb dX7_runScript_61 (lv_at hl 3 rfl) ?_
              refine lv_iload_n hx hb dX7_runScript_63 rfl (lv_at hl 1 rfl) ?_
              refine lv_icmp_ge (tgt := 105) hx hb dX7_runScript_64 (by decide) (fun c64 => ?_) (fun c64 => ?_)
              · have hv := (if_pos c64).symm.trans hv
                refine lv_iconst (v := (-1)) hx hb dX7_runScript_105 (by decide) ?_
                refine W.widen (k := 1) (n := 6) (Nat.le_of_ble_eq_true rfl) (Nat.le_of_ble_eq_true rfl) ?_
                refine vx_ret ?_
                exact W.iret (v := (-1)) hx hb hr (fun t ht hW => ⟨⟨(-1), (Os9, T9), rfl, xw_eq hv, tw ht hT⟩, hS.F ht⟩) hS.2.2 dX7_runScript_106 (hlocks := hlocks)
              · have hv := (if_neg c64).symm.trans hv
                refine lv_lload_n hx hb dX7_runScript_67 rfl (lv_at hl 2 rfl) ?_
                refine lv_iload_n hx hb dX7_runScript_68 rfl (lv_at hl 1 rfl) ?_
                refine lv_iconst (v := 1) hx hb dX7_runScript_69 (by decide) ?_
                refine lv_isub hx hb dX7_runScript_70 ?_
                refine lv_iload hx hb dX7_runScript_71 (lv_at hl 3 rfl) ?_
                refine lv_isub hx hb dX7_runScript_73 ?_
                refine ro_l (sX7_groupsDropped p2 ((p1 - 1) - x4)) (run_c (va_runS (As := [.long p2, .int ((p1 - 1) - x4)]) (rest := []) ⟨hx, hb, hml, hown, hts⟩ (c_X7_groupsDropped l D cs p2 ((p1 - 1) - x4)) (cwS 2 hts (good_S w_ml_X7_255 w_st_X7_groupsDropped w_in_X7 w_co_X7_groupsDropped) rfl rfl rfl ⟨rfl, hd_X7_groupsDropped⟩ ⟨Nat.le_of_ble_eq_true rfl, Nat.le_of_ble_eq_true rfl⟩) (pe_S (p_nil D _) hE) rfl rfl hl.1 rfl (lv_room (Nat.le_of_ble_eq_true rfl)) dX7_runScript_74 ⟨Nat.le_of_ble_eq_true rfl, Nat.le_of_ble_eq_true rfl⟩)) ?_
                refine lv_ldc2 (v := 1000000) hx hb hown (hts _ w_cn_X7_264) dX7_runScript_77 ?_
                refine lv_lrem hx hb dX7_runScript_80 (by decide) ?_
                refine lv_l2i hx hb dX7_runScript_81 rfl ?_
                refine lv_istore (lv' := [(5, .int (((sX7_groupsDropped p2 ((p1 - 1) - x4)) - (sX7_groupsDropped p2 ((p1 - 1) - x4)) / (1000000 : Int64) * (1000000 : Int64)).toInt32)), (0, .ref (z 0)), (1, .int p1), (2, .long p2), (4, .int x4)]) hx hb dX7_runScript_82 hl (by decide) rfl (fun ls hl => ?_)
                refine lv_aload_n hx hb dX7_runScript_84 rfl (lv_at hl 1 rfl) ?_
                refine va_get (D := D) (ci := 7) (v := .ref (A 1 0)) (C := RX7) (T := TX7) (N := 5) hx hb hts iw_X7 hown hK hT.1 0 rfl rfl 2 (by decide) (hts _ w_fl_X7_23) (fun _ h9 => h9) rfl dX7_runScript_85 ?_
                refine lv_iload hx hb dX7_runScript_88 (lv_at hl 0 rfl) ?_
                refine w_b (sX7_succeeds (Os9 1) (((sX7_groupsDropped p2 ((p1 - 1) - x4)) - (sX7_groupsDropped p2 ((p1 - 1) - x4)) / (1000000 : Int64) * (1000000 : Int64)).toInt32)) (va_runS (As := [.ref (A 1 0), .int (((sX7_groupsDropped p2 ((p1 - 1) - x4)) - (sX7_groupsDropped p2 ((p1 - 1) - x4)) / (1000000 : Int64) * (1000000 : Int64)).toInt32)]) (rest := []) ⟨hx, hb, hml, hown, hts⟩ (c_X7_succeeds l D cs (A 1) (Os9 1) (((sX7_groupsDropped p2 ((p1 - 1) - x4)) - (sX7_groupsDropped p2 ((p1 - 1) - x4)) / (1000000 : Int64) * (1000000 : Int64)).toInt32) (hd.o (k := 1) (by decide))) (cwS 2 hts (good_S w_ml_X7_266 w_st_X7_succeeds w_in_X7 w_co_X7_succeeds) rfl rfl rfl ⟨rfl, hd_X7_succeeds⟩ ⟨Nat.le_of_ble_eq_true rfl, Nat.le_of_ble_eq_true rfl⟩) (pe_S (hT.2 1 (by decide)) hE) rfl rfl hl.1 rfl (lv_room (Nat.le_of_ble_eq_true rfl)) dX7_runScript_90 ⟨Nat.le_of_ble_eq_true rfl, Nat.le_of_ble_eq_true rfl⟩) hS (fun _ _ h => Or.inr ⟨1, by decide, h⟩) (fun _ h => Or.inr ⟨1, by decide, h⟩) (fun t locs hB hz hk hS => ?_)
                have hT : tsP D cs z A (va_up Os9 1 ((sX7_succeeds (Os9 1) (((sX7_groupsDropped p2 ((p1 - 1) - x4)) - (sX7_groupsDropped p2 ((p1 - 1) - x4)) / (1000000 : Int64) * (1000000 : Int64)).toInt32)).2)) T9 t.heap := t_of hd hT (by decide) hk hB
                refine lv_if_ne (tgt := 99) hx hb dX7_runScript_93 (by decide) (fun c93 => ?_) (fun c93 => ?_)
                · have c93 := b2i_t c93
                  have hv := (if_pos c93).symm.trans hv
                  refine lv_iinc (v := x4 + 1) (lv' := [(4, .int (x4 + 1)), (5, .int (((sX7_groupsDropped p2 ((p1 - 1) - x4)) - (sX7_groupsDropped p2 ((p1 - 1) - x4)) / (1000000 : Int64) * (1000000 : Int64)).toInt32)), (0, .ref (z 0)), (1, .int p1), (2, .long p2)]) hx hb dX7_runScript_99 hl (k := 4) rfl rfl (by decide) rfl (fun ls hl => ?_)
                  refine lv_goto (tgt := 61) hx hb dX7_runScript_102 (by decide) ?_
                  exact ih (x4 + 1) (va_up Os9 1 ((sX7_succeeds (Os9 1) (((sX7_groupsDropped p2 ((p1 - 1) - x4)) - (sX7_groupsDropped p2 ((p1 - 1) - x4)) / (1000000 : Int64) * (1000000 : Int64)).toInt32)).2)) T9 (upM_s c64 hm) hv _ _ hT hS ls (lv_sub hl [2, 3, 4, 0] rfl)
                · have c93 := b2i_f c93
                  have hv := (if_neg c93).symm.trans hv
                  refine lv_iload hx hb dX7_runScript_96 (lv_at hl 4 rfl) ?_
                  refine W.widen (k := 1) (n := 6) (Nat.le_of_ble_eq_true rfl) (Nat.le_of_ble_eq_true rfl) ?_
                  refine vx_ret ?_
                  exact W.iret (v := x4) hx hb hr (fun t ht hW => ⟨⟨x4, ((va_up Os9 1 ((sX7_succeeds (Os9 1) (((sX7_groupsDropped p2 ((p1 - 1) - x4)) - (sX7_groupsDropped p2 ((p1 - 1) - x4)) / (1000000 : Int64) * (1000000 : Int64)).toInt32)).2)), T9), rfl, xw_eq hv, tw ht hT⟩, hS.F ht⟩) hS.2.2 dX7_runScript_98 (hlocks := hlocks)
          exact LOOP _ 0 (va_up Os 1 (sX1_copyFrom (Os 1) (Os 0))) T (Nat.lt_succ_self _) hv _ _ hT hS ls (lv_sub hl [1, 2, 3, 0] rfl)
        · have hv := (if_neg c33).symm.trans hv
          obtain ⟨sa, hsa⟩ := hXE.2.2.2.2 (259, "a script has at most six digits a command") (List.mem_of_getElem? (i := 19) rfl)
          exact thr_1w hx hb hlst hown hts hXE hsa hS (by rw [hml]; exact hl.1) dX7_runScript_36 dX7_runScript_39 dX7_runScript_40 dX7_runScript_43 dX7_runScript_46 hout (Nat.le_of_ble_eq_true rfl) (Nat.le_of_ble_eq_true rfl) (Nat.le_of_ble_eq_true rfl) (Nat.le_of_ble_eq_true rfl) hlocks (xc_w (k := 1) (by decide) hv hT hS) hS.2.2 (Nat.le_of_ble_eq_true rfl) (Nat.le_of_ble_eq_true rfl)
    · have hv := (if_neg c7).symm.trans hv
      obtain ⟨sa, hsa⟩ := hXE.2.2.2.2 (253, "a script has 1 to 3 commands") (List.mem_of_getElem? (i := 18) rfl)
      exact thr_1 hx hb hlst hown hts hXE hsa hS (by rw [hml]; exact hl.1) dX7_runScript_10 dX7_runScript_13 dX7_runScript_14 dX7_runScript_16 dX7_runScript_19 hout (Nat.le_of_ble_eq_true rfl) (Nat.le_of_ble_eq_true rfl) (Nat.le_of_ble_eq_true rfl) (Nat.le_of_ble_eq_true rfl) hlocks (xc_w (k := 1) (by decide) hv hT hS) hS.2.2 (Nat.le_of_ble_eq_true rfl) (Nat.le_of_ble_eq_true rfl)
theorem hd_X7_simulate : yX7_simulate.cls ≠ "java/lang/invoke/MethodHandle" ∧ yX7_simulate.cls ≠ "java/lang/invoke/VarHandle" ∧ (parseMethodDescriptor yX7_simulate.desc).map (fun d => d.parameters.length) = some 2 := by decide +kernel
def LX7_simulate_39 (Os : Nat → OF) (T : OF) (p1 : Int64) (p2 : Int32) : Nat → Int64 → Int32 → (Nat → OF) → OF → Nat × Int32 × TSt
  | 0 => fun _ _ _ _ => (0, 0, (Os, T))
  | n + 1 => fun x4 x6 Os9 T9 => (if p2 ≤ x6 then (0, (1000 * (sX1_wrongWorks (Os9 1) (-1) (-1))) + (if (((Os9 1).1 6) - ((Os9 0).1 6)) < 999 then (((Os9 1).1 6) - ((Os9 0).1 6)) else 999), (Os9, T9)) else (LX7_simulate_39 Os T p1 p2 n ((x4 * (6364136223846793005 : Int64)) + (1442695040888963407 : Int64)) (x6 + 1) (va_up Os9 1 (sX7_takeTurn (Os9 1) (((((x4 * (6364136223846793005 : Int64)) + (1442695040888963407 : Int64)).toUInt64 >>> ((33 : Int32).toInt64.toUInt64 &&& Int64.toUInt64 63)).toInt64).toInt32))) T9))
theorem LX7_simulate_39_eq (Os : Nat → OF) (T : OF) (p1 : Int64) (p2 : Int32) (n : Nat) (x4 : Int64) (x6 : Int32) (Os9 : (Nat → OF)) (T9 : OF) : LX7_simulate_39 Os T p1 p2 (n + 1) x4 x6 Os9 T9 = (if p2 ≤ x6 then (0, (1000 * (sX1_wrongWorks (Os9 1) (-1) (-1))) + (if (((Os9 1).1 6) - ((Os9 0).1 6)) < 999 then (((Os9 1).1 6) - ((Os9 0).1 6)) else 999), (Os9, T9)) else (LX7_simulate_39 Os T p1 p2 n ((x4 * (6364136223846793005 : Int64)) + (1442695040888963407 : Int64)) (x6 + 1) (va_up Os9 1 (sX7_takeTurn (Os9 1) (((((x4 * (6364136223846793005 : Int64)) + (1442695040888963407 : Int64)).toUInt64 >>> ((33 : Int32).toInt64.toUInt64 &&& Int64.toUInt64 63)).toInt64).toInt32))) T9)) := rfl
def sX7_simulate (Os : Nat → OF) (T : OF) (p1 : Int64) (p2 : Int32) : Nat × Int32 × TSt := (if p2 < 1 then (1, 0, (Os, T)) else (if p2 ≤ 80 then (LX7_simulate_39 Os T p1 p2 (upM p2 0 + 1) p1 0 (va_up Os 1 (sX1_copyFrom (Os 1) (Os 0))) T) else (1, 0, (Os, T))))
set_option maxHeartbeats 4000000 in
set_option maxRecDepth 100000 in
theorem c_X7_simulate (l : Launch) (D : va_G) (cs : Nat → ClassId) (z : Nat → Nat) (A : Nat → Nat → Nat) (adK adV : Nat → Nat) (Os : Nat → OF) (T : OF) (p1 : Int64) (p2 : Int32) (hd : tD z A) (hlst : l.stackTraces = false) : vx_Met l yX7_simulate (wc yX7_simulate cX7_simulate 7 (some .int)) ({ frames := 7, cells := 1, slots := 6, locals := 152 } : Room) (va_Pc [.ref (z 0), .long p1, .int p2] (TE D cs z A adK adV Os T)) (xwQ D cs z A (sX7_simulate Os T p1 p2)) (xwX D cs z A (sX7_simulate Os T p1 p2)) 1 6 (tA z A) := by
  obtain ⟨v, hv⟩ : ∃ v, sX7_simulate Os T p1 p2 = v := ⟨_, rfl⟩
  rw [hv]
  refine met_x (lv := [(0, .ref (z 0)), (1, .long p1), (3, .int p2)]) (by decide) (Nat.le_of_ble_eq_true rfl) rfl ?_
  intro p e s m args below meth c ls hx hb hr hml hts hown hlocks hout hB0 hl
  obtain ⟨⟨hT, hE⟩, hXE⟩ := hB0
  have hown : s.vm.findClass RX7 = some m.cls := hown
  have hK := hE.1
  have hS : va_S (tA z A) s.heap s.heap [] := va_S.rf
  unfold sX7_simulate at hv
  refine lv_iload_n hx hb dX7_simulate_0 rfl (lv_at hl 2 rfl) ?_
  refine lv_iconst (v := 1) hx hb dX7_simulate_1 (by decide) ?_
  refine lv_icmp_lt (tgt := 11) hx hb dX7_simulate_2 (by decide) (fun c2 => ?_) (fun c2 => ?_)
  · have hv := (if_pos c2).symm.trans hv
    obtain ⟨sa, hsa⟩ := hXE.2.2.2.2 (270, "the turns are 1 to 80") (List.mem_of_getElem? (i := 20) rfl)
    exact thr_1w hx hb hlst hown hts hXE hsa hS (by rw [hml]; exact hl.1) dX7_simulate_11 dX7_simulate_14 dX7_simulate_15 dX7_simulate_18 dX7_simulate_21 hout (Nat.le_of_ble_eq_true rfl) (Nat.le_of_ble_eq_true rfl) (Nat.le_of_ble_eq_true rfl) (Nat.le_of_ble_eq_true rfl) hlocks (xc_w (k := 1) (by decide) hv hT hS) hS.2.2 (Nat.le_of_ble_eq_true rfl) (Nat.le_of_ble_eq_true rfl)
  · have hv := (if_neg c2).symm.trans hv
    refine lv_iload_n hx hb dX7_simulate_5 rfl (lv_at hl 2 rfl) ?_
    refine lv_bipush (v := 80) hx hb dX7_simulate_6 (by decide) ?_
    refine lv_icmp_le (tgt := 22) hx hb dX7_simulate_8 (by decide) (fun c8 => ?_) (fun c8 => ?_)
    · have hv := (if_pos c8).symm.trans hv
      refine lv_aload_n hx hb dX7_simulate_22 rfl (lv_at hl 0 rfl) ?_
      refine va_get (D := D) (ci := 7) (v := .ref (A 1 0)) (C := RX7) (T := TX7) (N := 5) hx hb hts iw_X7 hown hK hT.1 0 rfl rfl 2 (by decide) (hts _ w_fl_X7_23) (fun _ h9 => h9) rfl dX7_simulate_23 ?_
      refine lv_aload_n hx hb dX7_simulate_26 rfl (lv_at hl 0 rfl) ?_
      refine va_get (D := D) (ci := 7) (v := .ref (A 0 0)) (C := RX7) (T := TX7) (N := 5) hx hb hts iw_X7 hown hK hT.1 0 rfl rfl 1 (by decide) (hts _ w_fl_X7_19) (fun _ h9 => h9) rfl dX7_simulate_27 ?_
      refine w_v (sX1_copyFrom (Os 1) (Os 0)) (va_runV (As := [.ref (A 0 0)]) (rest := []) ⟨hx, hb, hml, hown, hts⟩ (c_X1_copyFrom l D cs (A 1) (A 0) (Os 1) (Os 0) (hd.o2 (by decide) (by decide) (by decide))) (cwV 1 hts (good_V w_ml_X7_261 w_im_X1_copyFrom w_se_X1_copyFrom w_in_X1 w_co_X1_copyFrom) rfl rfl rfl ⟨rfl, hd_X1_copyFrom⟩ ⟨Nat.le_of_ble_eq_true rfl, Nat.le_of_ble_eq_true rfl⟩) (pe_W (C := RX1) (T := TX1) (N := 6) (ci := 1) (q0 := 0) (va_P.app (hT.2 1 (by decide)) (hT.2 0 (by decide))) hE rfl rfl) rfl rfl hl.1 rfl (lv_room (Nat.le_of_ble_eq_true rfl)) dX7_simulate_30 ⟨Nat.le_of_ble_eq_true rfl, Nat.le_of_ble_eq_true rfl⟩) hS (fun _ _ h => h.elim (fun h => Or.inr ⟨1, by decide, h⟩) (fun h => Or.inr ⟨0, by decide, h⟩)) (fun _ h => h.elim (fun h => Or.inr ⟨1, by decide, h⟩) (fun h => Or.inr ⟨0, by decide, h⟩)) (fun t locs hB hz hk hS => ?_)
      have hT : tsP D cs z A (va_up Os 1 (sX1_copyFrom (Os 1) (Os 0))) T t.heap := t_cp hd hT (by decide) (by decide) rfl hk hB
      refine lv_lload_n hx hb dX7_simulate_33 rfl (lv_at hl 1 rfl) ?_
      refine lv_lstore (lv' := [(4, .long p1), (0, .ref (z 0)), (1, .long p1), (3, .int p2)]) hx hb dX7_simulate_34 hl (by decide) rfl (fun ls hl => ?_)
      refine lv_iconst (v := 0) hx hb dX7_simulate_36 (by decide) ?_
      refine lv_istore (lv' := [(6, .int 0), (4, .long p1), (0, .ref (z 0)), (1, .long p1), (3, .int p2)]) hx hb dX7_simulate_37 hl (by decide) rfl (fun ls hl => ?_)
      have LOOP : ∀ (n : Nat) (x4 : Int64) (x6 : Int32) (Os9 : (Nat → OF)) (T9 : OF), upM p2 x6 < n → LX7_simulate_39 Os T p1 p2 n x4 x6 Os9 T9 = v → ∀ (H : Heap) (locs : List Loc), tsP D cs z A Os9 T9 H → va_S (tA z A) s.heap H locs → ∀ ls : Array Slot, lv_has ls 7 [(0, .ref (z 0)), (1, .long p1), (3, .int p2), (4, .long x4), (6, .int x6)] → W p l e ({ frames := 7, cells := 1, slots := 6, locals := 152 } : Room) s m args below meth c H locs 0 0 (vx_MQ below (xwQ D cs z A v) (xwX D cs z A v) args s 1 6 (tA z A)) (F0 m 39 ls []) := by
        clear hv hT
        intro n
        induction n with
        | zero => intro x4 x6 Os9 T9 hm; exact absurd hm (Nat.not_lt_zero _)
        | succ n ih =>
          intro x4 x6 Os9 T9 hm hv H locs hT hS ls hl
          have hv := (LX7_simulate_39_eq Os T p1 p2 n x4 x6 Os9 T9).symm.trans hv
          refine lv_iload hx hb dX7_simulate_39 (lv_at hl 4 rfl) ?_
          refine lv_iload_n hx hb dX7_simulate_41 rfl (lv_at hl 2 rfl) ?_
          refine lv_icmp_ge (tgt := 76) hx hb dX7_simulate_42 (by decide) (fun c42 => ?_) (fun c42 => ?_)
          · have hv := (if_pos c42).symm.trans hv
            refine lv_sipush (v := 1000) hx hb dX7_simulate_76 (by decide) ?_
            refine lv_aload_n hx hb dX7_simulate_79 rfl (lv_at hl 0 rfl) ?_
            refine va_get (D := D) (ci := 7) (v := .ref (A 1 0)) (C := RX7) (T := TX7) (N := 5) hx hb hts iw_X7 hown hK hT.1 0 rfl rfl 2 (by decide) (hts _ w_fl_X7_23) (fun _ h9 => h9) rfl dX7_simulate_80 ?_
            refine lv_iconst (v := (-1)) hx hb dX7_simulate_83 (by decide) ?_
            refine lv_iconst (v := (-1)) hx hb dX7_simulate_84 (by decide) ?_
            refine ro_i (sX1_wrongWorks (Os9 1) (-1) (-1)) (run_c (va_runV (As := [.int (-1), .int (-1)]) (rest := [.int 1000]) ⟨hx, hb, hml, hown, hts⟩ (c_X1_wrongWorks l D cs (A 1) (Os9 1) (-1) (-1)) (cwV 2 hts (good_V w_ml_X7_280 w_im_X1_wrongWorks w_se_X1_wrongWorks w_in_X1 w_co_X1_wrongWorks) rfl rfl rfl ⟨rfl, hd_X1_wrongWorks⟩ ⟨Nat.le_of_ble_eq_true rfl, Nat.le_of_ble_eq_true rfl⟩) (pe_W (C := RX1) (T := TX1) (N := 6) (ci := 1) (q0 := 0) (hT.2 1 (by decide)) hE rfl rfl) rfl rfl hl.1 rfl (lv_room (Nat.le_of_ble_eq_true rfl)) dX7_simulate_85 ⟨Nat.le_of_ble_eq_true rfl, Nat.le_of_ble_eq_true rfl⟩)) ?_
            refine lv_imul hx hb dX7_simulate_88 ?_
            refine lv_sipush (v := 999) hx hb dX7_simulate_89 (by decide) ?_
            refine lv_aload_n hx hb dX7_simulate_92 rfl (lv_at hl 0 rfl) ?_
            refine va_get (D := D) (ci := 7) (v := .ref (A 1 0)) (C := RX7) (T := TX7) (N := 5) hx hb hts iw_X7 hown hK hT.1 0 rfl rfl 2 (by decide) (hts _ w_fl_X7_23) (fun _ h9 => h9) rfl dX7_simulate_93 ?_
            refine va_getN (D := D) (ci := 1) (v := .int ((Os9 1).1 6)) (C := RX1) (T := TX1) (N := 6) hx hb hts iw_X1 hown hK (hT.2 1 (by decide)) 0 rfl rfl 5 (by decide) (va_Nw.use rfl (hE.2.2 (283, "cost", "I") (List.mem_of_getElem? (i := 3) rfl))) (fun _ h9 => h9) rfl dX7_simulate_96 ?_
            refine lv_aload_n hx hb dX7_simulate_99 rfl (lv_at hl 0 rfl) ?_
            refine va_get (D := D) (ci := 7) (v := .ref (A 0 0)) (C := RX7) (T := TX7) (N := 5) hx hb hts iw_X7 hown hK hT.1 0 rfl rfl 1 (by decide) (hts _ w_fl_X7_19) (fun _ h9 => h9) rfl dX7_simulate_100 ?_
            refine va_getN (D := D) (ci := 1) (v := .int ((Os9 0).1 6)) (C := RX1) (T := TX1) (N := 6) hx hb hts iw_X1 hown hK (hT.2 0 (by decide)) 0 rfl rfl 5 (by decide) (va_Nw.use rfl (hE.2.2 (283, "cost", "I") (List.mem_of_getElem? (i := 3) rfl))) (fun _ h9 => h9) rfl dX7_simulate_103 ?_
            refine lv_isub hx hb dX7_simulate_106 ?_
            refine va_mmin hx hb (by rw [hml, hl.1]) hown (hts _ w_ml_X7_287) (hts _ w_st_J9_min_7cf53) (hts _ w_in_J9) (hts _ w_co_J9_min_7cf53) (Nat.le_of_ble_eq_true rfl) (Nat.le_of_ble_eq_true rfl) (Nat.le_of_ble_eq_true rfl) (Nat.le_of_ble_eq_true rfl) dX7_simulate_107 ?_
            refine lv_iadd hx hb dX7_simulate_110 ?_
            refine W.widen (k := 1) (n := 6) (Nat.le_of_ble_eq_true rfl) (Nat.le_of_ble_eq_true rfl) ?_
            refine vx_ret ?_
            exact W.iret (v := (1000 * (sX1_wrongWorks (Os9 1) (-1) (-1))) + (if (((Os9 1).1 6) - ((Os9 0).1 6)) < 999 then (((Os9 1).1 6) - ((Os9 0).1 6)) else 999)) hx hb hr (fun t ht hW => ⟨⟨(1000 * (sX1_wrongWorks (Os9 1) (-1) (-1))) + (if (((Os9 1).1 6) - ((Os9 0).1 6)) < 999 then (((Os9 1).1 6) - ((Os9 0).1 6)) else 999), (Os9, T9), rfl, xw_eq hv, tw ht hT⟩, hS.F ht⟩) hS.2.2 dX7_simulate_111 (hlocks := hlocks)
          · have hv := (if_neg c42).symm.trans hv
            refine lv_lload hx hb dX7_simulate_45 (lv_at hl 3 rfl) ?_
            refine lv_ldc2 (v := 6364136223846793005) hx hb hown (hts _ w_cn_X7_272) dX7_simulate_47 ?_
            refine lv_lmul hx hb dX7_simulate_50 ?_
            refine lv_ldc2 (v := 1442695040888963407) hx hb hown (hts _ w_cn_X7_274) dX7_simulate_51 ?_
            refine lv_ladd hx hb dX7_simulate_54 ?_
            refine lv_lstore (lv' := [(4, .long ((x4 * (6364136223846793005 : Int64)) + (1442695040888963407 : Int64))), (0, .ref (z 0)), (1, .long p1), (3, .int p2), (6, .int x6)]) hx hb dX7_simulate_55 hl (by decide) rfl (fun ls hl => ?_)
            refine lv_aload_n hx hb dX7_simulate_57 rfl (lv_at hl 1 rfl) ?_
            refine va_get (D := D) (ci := 7) (v := .ref (A 1 0)) (C := RX7) (T := TX7) (N := 5) hx hb hts iw_X7 hown hK hT.1 0 rfl rfl 2 (by decide) (hts _ w_fl_X7_23) (fun _ h9 => h9) rfl dX7_simulate_58 ?_
            refine lv_lload hx hb dX7_simulate_61 (lv_at hl 0 rfl) ?_
            refine lv_bipush (v := 33) hx hb dX7_simulate_63 (by decide) ?_
            refine lv_lushr hx hb dX7_simulate_65 rfl ?_
            refine lv_l2i hx hb dX7_simulate_66 rfl ?_
            refine w_v (sX7_takeTurn (Os9 1) (((((x4 * (6364136223846793005 : Int64)) + (1442695040888963407 : Int64)).toUInt64 >>> ((33 : Int32).toInt64.toUInt64 &&& Int64.toUInt64 63)).toInt64).toInt32)) (va_runS (As := [.ref (A 1 0), .int (((((x4 * (6364136223846793005 : Int64)) + (1442695040888963407 : Int64)).toUInt64 >>> ((33 : Int32).toInt64.toUInt64 &&& Int64.toUInt64 63)).toInt64).toInt32)]) (rest := []) ⟨hx, hb, hml, hown, hts⟩ (c_X7_takeTurn l D cs (A 1) (Os9 1) (((((x4 * (6364136223846793005 : Int64)) + (1442695040888963407 : Int64)).toUInt64 >>> ((33 : Int32).toInt64.toUInt64 &&& Int64.toUInt64 63)).toInt64).toInt32) (hd.o (k := 1) (by decide))) (cwS 2 hts (good_S w_ml_X7_276 w_st_X7_takeTurn w_in_X7 w_co_X7_takeTurn) rfl rfl rfl ⟨rfl, hd_X7_takeTurn⟩ ⟨Nat.le_of_ble_eq_true rfl, Nat.le_of_ble_eq_true rfl⟩) (pe_S (hT.2 1 (by decide)) hE) rfl rfl hl.1 rfl (lv_room (Nat.le_of_ble_eq_true rfl)) dX7_simulate_67 ⟨Nat.le_of_ble_eq_true rfl, Nat.le_of_ble_eq_true rfl⟩) hS (fun _ _ h => Or.inr ⟨1, by decide, h⟩) (fun _ h => Or.inr ⟨1, by decide, h⟩) (fun t locs hB hz hk hS => ?_)
            have hT : tsP D cs z A (va_up Os9 1 (sX7_takeTurn (Os9 1) (((((x4 * (6364136223846793005 : Int64)) + (1442695040888963407 : Int64)).toUInt64 >>> ((33 : Int32).toInt64.toUInt64 &&& Int64.toUInt64 63)).toInt64).toInt32))) T9 t.heap := t_of hd hT (by decide) hk hB
            refine lv_iinc (v := x6 + 1) (lv' := [(6, .int (x6 + 1)), (4, .long ((x4 * (6364136223846793005 : Int64)) + (1442695040888963407 : Int64))), (0, .ref (z 0)), (1, .long p1), (3, .int p2)]) hx hb dX7_simulate_70 hl (k := 4) rfl rfl (by decide) rfl (fun ls hl => ?_)
            refine lv_goto (tgt := 39) hx hb dX7_simulate_73 (by decide) ?_
            exact ih ((x4 * (6364136223846793005 : Int64)) + (1442695040888963407 : Int64)) (x6 + 1) (va_up Os9 1 (sX7_takeTurn (Os9 1) (((((x4 * (6364136223846793005 : Int64)) + (1442695040888963407 : Int64)).toUInt64 >>> ((33 : Int32).toInt64.toUInt64 &&& Int64.toUInt64 63)).toInt64).toInt32))) T9 (upM_s c42 hm) hv _ _ hT hS ls (lv_sub hl [2, 3, 4, 1, 0] rfl)
      exact LOOP _ p1 0 (va_up Os 1 (sX1_copyFrom (Os 1) (Os 0))) T (Nat.lt_succ_self _) hv _ _ hT hS ls (lv_sub hl [2, 3, 4, 1, 0] rfl)
    · have hv := (if_neg c8).symm.trans hv
      obtain ⟨sa, hsa⟩ := hXE.2.2.2.2 (270, "the turns are 1 to 80") (List.mem_of_getElem? (i := 20) rfl)
      exact thr_1w hx hb hlst hown hts hXE hsa hS (by rw [hml]; exact hl.1) dX7_simulate_11 dX7_simulate_14 dX7_simulate_15 dX7_simulate_18 dX7_simulate_21 hout (Nat.le_of_ble_eq_true rfl) (Nat.le_of_ble_eq_true rfl) (Nat.le_of_ble_eq_true rfl) (Nat.le_of_ble_eq_true rfl) hlocks (xc_w (k := 1) (by decide) hv hT hS) hS.2.2 (Nat.le_of_ble_eq_true rfl) (Nat.le_of_ble_eq_true rfl)
