theorem vp_le {x : Int32} {n N : Nat} (h : vp_in x n) (hn : n ≤ N) : vp_in x N := by
  have h1 := vp_in_iff.mp h
  exact vp_in_iff.mpr ⟨h1.1, by omega⟩
theorem vp_ne {x b : Int32} {n : Nat} (e : b.toInt = (n : Int)) (h : vp_in x (n + 1)) (c : ¬ x = b) : vp_in x n := by
  have h1 := vp_in_iff.mp h
  have h2 : x.toInt ≠ b.toInt := fun q => c (Int32.toInt_inj.mp q)
  exact vp_in_iff.mpr ⟨h1.1, by omega⟩
theorem bk_in {s x : Int32} {K N : Nat} (hK : 414 * K ≤ N) (hN : N ≤ 100000) (hs : vp_in s K) (hx : vp_in x 414) : vp_in (414 * s + x) N := by
  have h1 := vp_in_iff.mp hs
  have h2 := vp_in_iff.mp hx
  have e1 : (414 : Int32).toInt = 414 := rfl
  have k1 : (414 * s.toInt).bmod (2 ^ 32) = 414 * s.toInt := Int.bmod_eq_of_le (by omega) (by omega)
  rw [vp_in_iff, Int32.toInt_add, Int32.toInt_mul, e1, k1, Int.bmod_eq_of_le (by omega) (by omega)]
  omega
theorem rm_0 {x : Int32} (h : x = 14) : vp_in (x - 1) 14 := by rw [h]; unfold vp_in; decide
theorem ift {C : Prop} [Decidable C] {a b : Int32} (hb : b ≠ 0) (h : (if C then a else b) = 0) : C ∧ a = 0 := by
  by_cases e : C
  · rw [if_pos e] at h; exact ⟨e, h⟩
  · rw [if_neg e] at h; exact absurd h hb
theorem hd_X8_refused : yX8_refused.cls ≠ "java/lang/invoke/MethodHandle" ∧ yX8_refused.cls ≠ "java/lang/invoke/VarHandle" ∧ (parseMethodDescriptor yX8_refused.desc).map (fun d => d.parameters.length) = some 1 := by decide +kernel
def sX8_refused (M : MS) (p1 : Int32) : Bool × MS := ((if p1 = 0 then false else true), (msS M 0 p1))

set_option maxHeartbeats 4000000 in
set_option maxRecDepth 100000 in
theorem c_X8_refused (l : Launch) (D : va_G) (cs : Nat → ClassId) (w : Nat → Nat) (M : MS) (p1 : Int32) (hd : mD w) : Met l yX8_refused (wc yX8_refused cX8_refused 2 (some .boolean)) ({ frames := 0, cells := 0, slots := 0, locals := 0 } : Room) (va_Pc [.ref (w 0), .int p1] (PE D cs (mW cs w M))) (va_Qi (fun (r9 : Int32) (u : MS) => r9 = b2i (sX8_refused M p1).1 ∧ u = (sX8_refused M p1).2) (fun u t => va_P D vwC (mW cs w u) t.heap) (mA w)) 0 0 (mA w) := by
  obtain ⟨v, hv⟩ : ∃ v, sX8_refused M p1 = v := ⟨_, rfl⟩
  rw [hv]
  refine met_o (lv := [(0, .ref (w 0)), (1, .int p1)]) (by decide) (Nat.le_of_ble_eq_true rfl) rfl ?_
  intro p e s m args below meth c ls hx hb hr hml hts hown hlocks hin hP hE hl
  have hown : s.vm.findClass RX8 = some m.cls := hown
  have hK := hE.1
  have hP : va_P D vwC (mW cs w M) s.heap := hP
  have hS : va_S (mA w) s.heap s.heap [] := va_S.rf
  unfold sX8_refused at hv
  refine lv_aload_n hx hb dX8_refused_0 rfl (lv_at hl 0 rfl) ?_
  refine lv_iload_n hx hb dX8_refused_1 rfl (lv_at hl 1 rfl) ?_
  refine va_put (D := D) (ci := 8) (v := .int p1) (ty := .int) (C := RX8) (T := TX8) (N := 14) hx hb hts iw_X8 tyX8 tyX8_ok nmX8 hown hK hP (m_D cs M hd) hS 0 rfl rfl 0 (by decide) (hts _ w_fl_X8_36) (fun _ h9 => h9) rfl (by decide +kernel) rfl rfl (Nat.le_of_ble_eq_true rfl) dX8_refused_2 (fun H locs hP _ hS => ?_)
  have hP : va_P D vwC (mW cs w (msS M 0 p1)) H := hP
  refine lv_iload_n hx hb dX8_refused_5 rfl (lv_at hl 1 rfl) ?_
  refine join_i (J := 14) (ls := ls) (rest := []) (b2i (if p1 = 0 then false else true)) ?_ (fun hJ => ?_)
  · exact W.zret (ty := .boolean) (v := b2i (if p1 = 0 then false else true)) hx hb hr (b2i_nar (if p1 = 0 then false else true)) (fun t ht hW => ⟨⟨b2i (if p1 = 0 then false else true), (msS M 0 p1), rfl, pairb_eq hv, pw ht hP⟩, hS.F ht⟩) hS.2.2 dX8_refused_14 (hlocks := hlocks)
  · refine lv_if_eq (tgt := 13) hx hb dX8_refused_6 (by decide) (fun c6 => ?_) (fun c6 => ?_)
    · refine lv_iconst (v := 0) hx hb dX8_refused_13 (by decide) ?_
      exact hJ _ (congrArg b2i ((if_pos c6).trans rfl))
    · refine lv_iconst (v := 1) hx hb dX8_refused_9 (by decide) ?_
      refine lv_goto (tgt := 14) hx hb dX8_refused_10 (by decide) ?_
      exact hJ _ (congrArg b2i ((if_neg c6).trans rfl))
theorem hd_X8_remember : yX8_remember.cls ≠ "java/lang/invoke/MethodHandle" ∧ yX8_remember.cls ≠ "java/lang/invoke/VarHandle" ∧ (parseMethodDescriptor yX8_remember.desc).map (fun d => d.parameters.length) = some 0 := by decide +kernel
def LX8_remember_52 (M : MS) : Nat → Int32 → MS → MS
  | 0 => fun _ _ => M
  | n + 1 => fun x1 O9 => (if 414 ≤ x1 then (msS O9 1 ((O9.1.1 1) + 1)) else (LX8_remember_52 M n (x1 + 1) (msA O9 4 (upd (O9.1.2 4) ((414 * (O9.1.1 1)) + x1).toNatClampNeg ((O9.1.2 1) x1.toNatClampNeg)))))
theorem LX8_remember_52_eq (M : MS) (n : Nat) (x1 : Int32) (O9 : MS) : LX8_remember_52 M (n + 1) x1 O9 = (if 414 ≤ x1 then (msS O9 1 ((O9.1.1 1) + 1)) else (LX8_remember_52 M n (x1 + 1) (msA O9 4 (upd (O9.1.2 4) ((414 * (O9.1.1 1)) + x1).toNatClampNeg ((O9.1.2 1) x1.toNatClampNeg))))) := rfl
def LX8_remember_11 (M : MS) : Nat → Int32 → MS → MS
  | 0 => fun _ _ => M
  | n + 1 => fun x1 O9 => (if 5382 ≤ x1 then (LX8_remember_52 M (upM 414 0 + 1) 0 (msS O9 1 ((O9.1.1 1) - 1))) else (LX8_remember_11 M n (x1 + 1) (msA O9 4 (upd (O9.1.2 4) x1.toNatClampNeg ((O9.1.2 4) (414 + x1).toNatClampNeg)))))
theorem LX8_remember_11_eq (M : MS) (n : Nat) (x1 : Int32) (O9 : MS) : LX8_remember_11 M (n + 1) x1 O9 = (if 5382 ≤ x1 then (LX8_remember_52 M (upM 414 0 + 1) 0 (msS O9 1 ((O9.1.1 1) - 1))) else (LX8_remember_11 M n (x1 + 1) (msA O9 4 (upd (O9.1.2 4) x1.toNatClampNeg ((O9.1.2 4) (414 + x1).toNatClampNeg))))) := rfl
def sX8_remember (M : MS) : MS := (if (M.1.1 1) = 14 then (LX8_remember_11 M (upM 5382 0 + 1) 0 M) else (LX8_remember_52 M (upM 414 0 + 1) 0 M))
theorem rem_now (M : MS) : (sX8_remember M).1.2 1 = M.1.2 1 := by
  have h52 : ∀ n x O9, O9.1.2 1 = M.1.2 1 → (LX8_remember_52 M n x O9).1.2 1 = M.1.2 1 := by
    intro n
    induction n with
    | zero => intro x O9 _; rfl
    | succ n ih =>
      intro x O9 h
      rw [LX8_remember_52_eq]
      split
      · exact h
      · exact ih _ _ h
  have h11 : ∀ n x O9, O9.1.2 1 = M.1.2 1 → (LX8_remember_11 M n x O9).1.2 1 = M.1.2 1 := by
    intro n
    induction n with
    | zero => intro x O9 _; rfl
    | succ n ih =>
      intro x O9 h
      rw [LX8_remember_11_eq]
      split
      · exact h52 _ _ _ h
      · exact ih _ _ h
  unfold sX8_remember
  split
  · exact h11 _ _ _ rfl
  · exact h52 _ _ _ rfl
set_option maxHeartbeats 4000000 in
set_option maxRecDepth 100000 in
theorem c_X8_remember (l : Launch) (D : va_G) (cs : Nat → ClassId) (w : Nat → Nat) (M : MS) (hd : mD w) (h0 : vp_in (M.1.1 1) 15) : Met l yX8_remember (wc yX8_remember cX8_remember 2 none) ({ frames := 0, cells := 0, slots := 0, locals := 0 } : Room) (va_Pc [.ref (w 0)] (PE D cs (mW cs w M))) (va_Qv (fun u : MS => u = (sX8_remember M)) (fun u t => va_P D vwC (mW cs w u) t.heap) (mA w)) 0 0 (mA w) := by
  obtain ⟨v, hv⟩ : ∃ v, sX8_remember M = v := ⟨_, rfl⟩
  rw [hv]
  refine met_o (lv := [(0, .ref (w 0))]) (by decide) (Nat.le_of_ble_eq_true rfl) rfl ?_
  intro p e s m args below meth c ls hx hb hr hml hts hown hlocks hin hP hE hl
  have hown : s.vm.findClass RX8 = some m.cls := hown
  have hK := hE.1
  have hP : va_P D vwC (mW cs w M) s.heap := hP
  have hS : va_S (mA w) s.heap s.heap [] := va_S.rf
  unfold sX8_remember at hv
  refine lv_aload_n hx hb dX8_remember_0 rfl (lv_at hl 0 rfl) ?_
  refine va_get (D := D) (ci := 8) (v := .int (M.1.1 1)) (C := RX8) (T := TX8) (N := 14) hx hb hts iw_X8 hown hK hP 0 rfl rfl 5 (by decide) (hts _ w_fl_X8_97) (fun _ h9 => h9) rfl dX8_remember_1 ?_
  refine lv_bipush (v := 14) hx hb dX8_remember_4 (by decide) ?_
  refine lv_icmp_ne (tgt := 50) hx hb dX8_remember_6 (by decide) (fun c6 => ?_) (fun c6 => ?_)
  · have hv := (if_neg c6).symm.trans hv
    refine lv_iconst (v := 0) hx hb dX8_remember_50 (by decide) ?_
    refine lv_istore_n (lv' := [(1, .int 0), (0, .ref (w 0))]) hx hb dX8_remember_51 rfl hl (by decide) rfl (fun ls hl => ?_)
    have LOOP : ∀ (n : Nat) (x1 : Int32) (O9 : MS), upM 414 x1 < n → (¬ x1 < 0) → (vp_in (O9.1.1 1) 14) → LX8_remember_52 M n x1 O9 = v → ∀ (H : Heap) (locs : List Loc), va_P D vwC (mW cs w O9) H → va_S (mA w) s.heap H locs → ∀ ls : Array Slot, lv_has ls 2 [(0, .ref (w 0)), (1, .int x1)] → W p l e ({ frames := 0, cells := 0, slots := 0, locals := 0 } : Room) s m args below meth c H locs 0 0 (MQ below (va_Qv (fun u : MS => u = v) (fun u t => va_P D vwC (mW cs w u) t.heap) (mA w)) args s 0 0 (mA w)) (F0 m 52 ls []) := by
      clear hv
      intro n
      induction n with
      | zero => intro x1 O9 hm; exact absurd hm (Nat.not_lt_zero _)
      | succ n ih =>
        intro x1 O9 hm i0 i1 hv H locs hP hS ls hl
        have hv := (LX8_remember_52_eq M n x1 O9).symm.trans hv
        refine lv_iload_n hx hb dX8_remember_52 rfl (lv_at hl 1 rfl) ?_
        refine lv_sipush (v := 414) hx hb dX8_remember_53 (by decide) ?_
        refine lv_icmp_ge (tgt := 86) hx hb dX8_remember_56 (by decide) (fun c56 => ?_) (fun c56 => ?_)
        · have hv := (if_pos c56).symm.trans hv
          refine lv_aload_n hx hb dX8_remember_86 rfl (lv_at hl 0 rfl) ?_
          refine lv_dup hx hb dX8_remember_87 rfl ?_
          refine va_get (D := D) (ci := 8) (v := .int (O9.1.1 1)) (C := RX8) (T := TX8) (N := 14) hx hb hts iw_X8 hown hK hP 0 rfl rfl 5 (by decide) (hts _ w_fl_X8_97) (fun _ h9 => h9) rfl dX8_remember_88 ?_
          refine lv_iconst (v := 1) hx hb dX8_remember_91 (by decide) ?_
          refine lv_iadd hx hb dX8_remember_92 ?_
          refine va_put (D := D) (ci := 8) (v := .int ((O9.1.1 1) + 1)) (ty := .int) (C := RX8) (T := TX8) (N := 14) hx hb hts iw_X8 tyX8 tyX8_ok nmX8 hown hK hP (m_D cs O9 hd) hS 0 rfl rfl 5 (by decide) (hts _ w_fl_X8_97) (fun _ h9 => h9) rfl (by decide +kernel) rfl rfl (Nat.le_of_ble_eq_true rfl) dX8_remember_93 (fun H locs hP _ hS => ?_)
          have hP : va_P D vwC (mW cs w (msS O9 1 ((O9.1.1 1) + 1))) H := hP
          exact W.vret hx hb hr (fun t ht hW => ⟨⟨(msS O9 1 ((O9.1.1 1) + 1)), rfl, hv, pw ht hP⟩, hS.F ht⟩) hS.2.2 dX8_remember_96 (hlocks := hlocks)
        · have hv := (if_neg c56).symm.trans hv
          refine lv_aload_n hx hb dX8_remember_59 rfl (lv_at hl 0 rfl) ?_
          refine va_get (D := D) (ci := 8) (v := .ref (w 4)) (C := RX8) (T := TX8) (N := 14) hx hb hts iw_X8 hown hK hP 0 rfl rfl 4 (by decide) (hts _ w_fl_X8_19) (fun _ h9 => h9) rfl dX8_remember_60 ?_
          refine lv_sipush (v := 414) hx hb dX8_remember_63 (by decide) ?_
          refine lv_aload_n hx hb dX8_remember_66 rfl (lv_at hl 0 rfl) ?_
          refine va_get (D := D) (ci := 8) (v := .int (O9.1.1 1)) (C := RX8) (T := TX8) (N := 14) hx hb hts iw_X8 hown hK hP 0 rfl rfl 5 (by decide) (hts _ w_fl_X8_97) (fun _ h9 => h9) rfl dX8_remember_67 ?_
          refine lv_imul hx hb dX8_remember_70 ?_
          refine lv_iload_n hx hb dX8_remember_71 rfl (lv_at hl 1 rfl) ?_
          refine lv_iadd hx hb dX8_remember_72 ?_
          refine lv_aload_n hx hb dX8_remember_73 rfl (lv_at hl 0 rfl) ?_
          refine va_get (D := D) (ci := 8) (v := .ref (w 1)) (C := RX8) (T := TX8) (N := 14) hx hb hts iw_X8 hown hK hP 0 rfl rfl 1 (by decide) (hts _ w_fl_X8_7) (fun _ h9 => h9) rfl dX8_remember_74 ?_
          refine lv_iload_n hx hb dX8_remember_77 rfl (lv_at hl 1 rfl) ?_
          refine va_iald (cA := cs 0) (n := 414) (f := (O9.1.2 1)) hx hb hK hP 1 0 rfl rfl (vp_a rfl i0 c56) dX8_remember_78 ?_
          refine va_iast (cA := cs 0) (n := 5796) (f := (O9.1.2 4)) hx hb hK hP (m_D cs O9 hd) hS 4 0 rfl rfl (bk_in (K := 14) (by decide) (by decide) i1 (vp_a rfl i0 c56)) dX8_remember_79 (fun H locs hP _ hS => ?_)
          have hP : va_P D vwC (mW cs w (msA O9 4 (upd (O9.1.2 4) ((414 * (O9.1.1 1)) + x1).toNatClampNeg ((O9.1.2 1) x1.toNatClampNeg)))) H := hP
          refine lv_iinc (v := x1 + 1) (lv' := [(1, .int (x1 + 1)), (0, .ref (w 0))]) hx hb dX8_remember_80 hl (k := 1) rfl rfl (by decide) rfl (fun ls hl => ?_)
          refine lv_goto (tgt := 52) hx hb dX8_remember_83 (by decide) ?_
          exact ih (x1 + 1) (msA O9 4 (upd (O9.1.2 4) ((414 * (O9.1.1 1)) + x1).toNatClampNeg ((O9.1.2 1) x1.toNatClampNeg))) (upM_s c56 hm) (nn_inc i0 c56) i1 hv _ _ hP hS ls (lv_sub hl [1, 0] rfl)
    exact LOOP _ 0 M (Nat.lt_succ_self _) (by decide) (by first | exact rm_0 i1 | exact vp_ne (n := 14) rfl h0 c6) hv _ _ hP hS ls (lv_sub hl [1, 0] rfl)
  · have hv := (if_pos c6).symm.trans hv
    refine lv_iconst (v := 0) hx hb dX8_remember_9 (by decide) ?_
    refine lv_istore_n (lv' := [(1, .int 0), (0, .ref (w 0))]) hx hb dX8_remember_10 rfl hl (by decide) rfl (fun ls hl => ?_)
    have LOOP : ∀ (n : Nat) (x1 : Int32) (O9 : MS), upM 5382 x1 < n → (¬ x1 < 0) → (O9.1.1 1 = 14) → LX8_remember_11 M n x1 O9 = v → ∀ (H : Heap) (locs : List Loc), va_P D vwC (mW cs w O9) H → va_S (mA w) s.heap H locs → ∀ ls : Array Slot, lv_has ls 2 [(0, .ref (w 0)), (1, .int x1)] → W p l e ({ frames := 0, cells := 0, slots := 0, locals := 0 } : Room) s m args below meth c H locs 0 0 (MQ below (va_Qv (fun u : MS => u = v) (fun u t => va_P D vwC (mW cs w u) t.heap) (mA w)) args s 0 0 (mA w)) (F0 m 11 ls []) := by
      clear hv
      intro n
      induction n with
      | zero => intro x1 O9 hm; exact absurd hm (Nat.not_lt_zero _)
      | succ n ih =>
        intro x1 O9 hm i0 i1 hv H locs hP hS ls hl
        have hv := (LX8_remember_11_eq M n x1 O9).symm.trans hv
        refine lv_iload_n hx hb dX8_remember_11 rfl (lv_at hl 1 rfl) ?_
        refine lv_sipush (v := 5382) hx hb dX8_remember_12 (by decide) ?_
        refine lv_icmp_ge (tgt := 40) hx hb dX8_remember_15 (by decide) (fun c15 => ?_) (fun c15 => ?_)
        · have hv := (if_pos c15).symm.trans hv
          refine lv_aload_n hx hb dX8_remember_40 rfl (lv_at hl 0 rfl) ?_
          refine lv_dup hx hb dX8_remember_41 rfl ?_
          refine va_get (D := D) (ci := 8) (v := .int (O9.1.1 1)) (C := RX8) (T := TX8) (N := 14) hx hb hts iw_X8 hown hK hP 0 rfl rfl 5 (by decide) (hts _ w_fl_X8_97) (fun _ h9 => h9) rfl dX8_remember_42 ?_
          refine lv_iconst (v := 1) hx hb dX8_remember_45 (by decide) ?_
          refine lv_isub hx hb dX8_remember_46 ?_
          refine va_put (D := D) (ci := 8) (v := .int ((O9.1.1 1) - 1)) (ty := .int) (C := RX8) (T := TX8) (N := 14) hx hb hts iw_X8 tyX8 tyX8_ok nmX8 hown hK hP (m_D cs O9 hd) hS 0 rfl rfl 5 (by decide) (hts _ w_fl_X8_97) (fun _ h9 => h9) rfl (by decide +kernel) rfl rfl (Nat.le_of_ble_eq_true rfl) dX8_remember_47 (fun H locs hP _ hS => ?_)
          have hP : va_P D vwC (mW cs w (msS O9 1 ((O9.1.1 1) - 1))) H := hP
          refine lv_iconst (v := 0) hx hb dX8_remember_50 (by decide) ?_
          refine lv_istore_n (lv' := [(1, .int 0), (0, .ref (w 0))]) hx hb dX8_remember_51 rfl hl (by decide) rfl (fun ls hl => ?_)
          have LOOP : ∀ (n : Nat) (x1 : Int32) (O9 : MS), upM 414 x1 < n → (¬ x1 < 0) → (vp_in (O9.1.1 1) 14) → LX8_remember_52 M n x1 O9 = v → ∀ (H : Heap) (locs : List Loc), va_P D vwC (mW cs w O9) H → va_S (mA w) s.heap H locs → ∀ ls : Array Slot, lv_has ls 2 [(0, .ref (w 0)), (1, .int x1)] → W p l e ({ frames := 0, cells := 0, slots := 0, locals := 0 } : Room) s m args below meth c H locs 0 0 (MQ below (va_Qv (fun u : MS => u = v) (fun u t => va_P D vwC (mW cs w u) t.heap) (mA w)) args s 0 0 (mA w)) (F0 m 52 ls []) := by
            clear hv
            intro n
            induction n with
            | zero => intro x1 O9 hm; exact absurd hm (Nat.not_lt_zero _)
            | succ n ih =>
              intro x1 O9 hm i0 i1 hv H locs hP hS ls hl
              have hv := (LX8_remember_52_eq M n x1 O9).symm.trans hv
              refine lv_iload_n hx hb dX8_remember_52 rfl (lv_at hl 1 rfl) ?_
              refine lv_sipush (v := 414) hx hb dX8_remember_53 (by decide) ?_
              refine lv_icmp_ge (tgt := 86) hx hb dX8_remember_56 (by decide) (fun c56 => ?_) (fun c56 => ?_)
              · have hv := (if_pos c56).symm.trans hv
                refine lv_aload_n hx hb dX8_remember_86 rfl (lv_at hl 0 rfl) ?_
                refine lv_dup hx hb dX8_remember_87 rfl ?_
                refine va_get (D := D) (ci := 8) (v := .int (O9.1.1 1)) (C := RX8) (T := TX8) (N := 14) hx hb hts iw_X8 hown hK hP 0 rfl rfl 5 (by decide) (hts _ w_fl_X8_97) (fun _ h9 => h9) rfl dX8_remember_88 ?_
                refine lv_iconst (v := 1) hx hb dX8_remember_91 (by decide) ?_
                refine lv_iadd hx hb dX8_remember_92 ?_
                refine va_put (D := D) (ci := 8) (v := .int ((O9.1.1 1) + 1)) (ty := .int) (C := RX8) (T := TX8) (N := 14) hx hb hts iw_X8 tyX8 tyX8_ok nmX8 hown hK hP (m_D cs O9 hd) hS 0 rfl rfl 5 (by decide) (hts _ w_fl_X8_97) (fun _ h9 => h9) rfl (by decide +kernel) rfl rfl (Nat.le_of_ble_eq_true rfl) dX8_remember_93 (fun H locs hP _ hS => ?_)
                have hP : va_P D vwC (mW cs w (msS O9 1 ((O9.1.1 1) + 1))) H := hP
                exact W.vret hx hb hr (fun t ht hW => ⟨⟨(msS O9 1 ((O9.1.1 1) + 1)), rfl, hv, pw ht hP⟩, hS.F ht⟩) hS.2.2 dX8_remember_96 (hlocks := hlocks)
              · have hv := (if_neg c56).symm.trans hv
                refine lv_aload_n hx hb dX8_remember_59 rfl (lv_at hl 0 rfl) ?_
                refine va_get (D := D) (ci := 8) (v := .ref (w 4)) (C := RX8) (T := TX8) (N := 14) hx hb hts iw_X8 hown hK hP 0 rfl rfl 4 (by decide) (hts _ w_fl_X8_19) (fun _ h9 => h9) rfl dX8_remember_60 ?_
                refine lv_sipush (v := 414) hx hb dX8_remember_63 (by decide) ?_
                refine lv_aload_n hx hb dX8_remember_66 rfl (lv_at hl 0 rfl) ?_
                refine va_get (D := D) (ci := 8) (v := .int (O9.1.1 1)) (C := RX8) (T := TX8) (N := 14) hx hb hts iw_X8 hown hK hP 0 rfl rfl 5 (by decide) (hts _ w_fl_X8_97) (fun _ h9 => h9) rfl dX8_remember_67 ?_
                refine lv_imul hx hb dX8_remember_70 ?_
                refine lv_iload_n hx hb dX8_remember_71 rfl (lv_at hl 1 rfl) ?_
                refine lv_iadd hx hb dX8_remember_72 ?_
                refine lv_aload_n hx hb dX8_remember_73 rfl (lv_at hl 0 rfl) ?_
                refine va_get (D := D) (ci := 8) (v := .ref (w 1)) (C := RX8) (T := TX8) (N := 14) hx hb hts iw_X8 hown hK hP 0 rfl rfl 1 (by decide) (hts _ w_fl_X8_7) (fun _ h9 => h9) rfl dX8_remember_74 ?_
                refine lv_iload_n hx hb dX8_remember_77 rfl (lv_at hl 1 rfl) ?_
                refine va_iald (cA := cs 0) (n := 414) (f := (O9.1.2 1)) hx hb hK hP 1 0 rfl rfl (vp_a rfl i0 c56) dX8_remember_78 ?_
                refine va_iast (cA := cs 0) (n := 5796) (f := (O9.1.2 4)) hx hb hK hP (m_D cs O9 hd) hS 4 0 rfl rfl (bk_in (K := 14) (by decide) (by decide) i1 (vp_a rfl i0 c56)) dX8_remember_79 (fun H locs hP _ hS => ?_)
                have hP : va_P D vwC (mW cs w (msA O9 4 (upd (O9.1.2 4) ((414 * (O9.1.1 1)) + x1).toNatClampNeg ((O9.1.2 1) x1.toNatClampNeg)))) H := hP
                refine lv_iinc (v := x1 + 1) (lv' := [(1, .int (x1 + 1)), (0, .ref (w 0))]) hx hb dX8_remember_80 hl (k := 1) rfl rfl (by decide) rfl (fun ls hl => ?_)
                refine lv_goto (tgt := 52) hx hb dX8_remember_83 (by decide) ?_
                exact ih (x1 + 1) (msA O9 4 (upd (O9.1.2 4) ((414 * (O9.1.1 1)) + x1).toNatClampNeg ((O9.1.2 1) x1.toNatClampNeg))) (upM_s c56 hm) (nn_inc i0 c56) i1 hv _ _ hP hS ls (lv_sub hl [1, 0] rfl)
          exact LOOP _ 0 (msS O9 1 ((O9.1.1 1) - 1)) (Nat.lt_succ_self _) (by decide) (by first | exact rm_0 i1 | exact vp_ne (n := 14) rfl h0 c6) hv _ _ hP hS ls (lv_sub hl [1, 0] rfl)
        · have hv := (if_neg c15).symm.trans hv
          refine lv_aload_n hx hb dX8_remember_18 rfl (lv_at hl 0 rfl) ?_
          refine va_get (D := D) (ci := 8) (v := .ref (w 4)) (C := RX8) (T := TX8) (N := 14) hx hb hts iw_X8 hown hK hP 0 rfl rfl 4 (by decide) (hts _ w_fl_X8_19) (fun _ h9 => h9) rfl dX8_remember_19 ?_
          refine lv_iload_n hx hb dX8_remember_22 rfl (lv_at hl 1 rfl) ?_
          refine lv_aload_n hx hb dX8_remember_23 rfl (lv_at hl 0 rfl) ?_
          refine va_get (D := D) (ci := 8) (v := .ref (w 4)) (C := RX8) (T := TX8) (N := 14) hx hb hts iw_X8 hown hK hP 0 rfl rfl 4 (by decide) (hts _ w_fl_X8_19) (fun _ h9 => h9) rfl dX8_remember_24 ?_
          refine lv_sipush (v := 414) hx hb dX8_remember_27 (by decide) ?_
          refine lv_iload_n hx hb dX8_remember_30 rfl (lv_at hl 1 rfl) ?_
          refine lv_iadd hx hb dX8_remember_31 ?_
          refine va_iald (cA := cs 0) (n := 5796) (f := (O9.1.2 4)) hx hb hK hP 4 0 rfl rfl (vp_off (K := 414) (n := 5382) rfl (vp_a rfl i0 c15) (by decide) (by decide)) dX8_remember_32 ?_
          refine va_iast (cA := cs 0) (n := 5796) (f := (O9.1.2 4)) hx hb hK hP (m_D cs O9 hd) hS 4 0 rfl rfl (vp_le (vp_a (n := 5382) rfl i0 c15) (by decide)) dX8_remember_33 (fun H locs hP _ hS => ?_)
          have hP : va_P D vwC (mW cs w (msA O9 4 (upd (O9.1.2 4) x1.toNatClampNeg ((O9.1.2 4) (414 + x1).toNatClampNeg)))) H := hP
          refine lv_iinc (v := x1 + 1) (lv' := [(1, .int (x1 + 1)), (0, .ref (w 0))]) hx hb dX8_remember_34 hl (k := 1) rfl rfl (by decide) rfl (fun ls hl => ?_)
          refine lv_goto (tgt := 11) hx hb dX8_remember_37 (by decide) ?_
          exact ih (x1 + 1) (msA O9 4 (upd (O9.1.2 4) x1.toNatClampNeg ((O9.1.2 4) (414 + x1).toNatClampNeg))) (upM_s c15 hm) (nn_inc i0 c15) i1 hv _ _ hP hS ls (lv_sub hl [1, 0] rfl)
    exact LOOP _ 0 M (Nat.lt_succ_self _) (by decide) c6 hv _ _ hP hS ls (lv_sub hl [1, 0] rfl)
theorem hd_X8_append : yX8_append.cls ≠ "java/lang/invoke/MethodHandle" ∧ yX8_append.cls ≠ "java/lang/invoke/VarHandle" ∧ (parseMethodDescriptor yX8_append.desc).map (fun d => d.parameters.length) = some 1 := by decide +kernel
def sX8_append (M : MS) (p1 : Int32) : Int32 × MS := (if (refB (if (sX8_in p1.toInt64 (0 : Int64) (255 : Int64)) = true then (if (M.1.1 2) = 120 then (2 : Int32) else (0 : Int32)) else (1 : Int32))) = true then (0, (msS M 0 (if (sX8_in p1.toInt64 (0 : Int64) (255 : Int64)) = true then (if (M.1.1 2) = 120 then (2 : Int32) else (0 : Int32)) else (1 : Int32)))) else ((M.1.1 2) + 1, (msS (msA (msS M 0 (if (sX8_in p1.toInt64 (0 : Int64) (255 : Int64)) = true then (if (M.1.1 2) = 120 then (2 : Int32) else (0 : Int32)) else (1 : Int32))) 7 (upd (M.1.2 7) (M.1.1 2).toNatClampNeg p1)) 2 ((M.1.1 2) + 1))))
set_option maxHeartbeats 4000000 in
set_option maxRecDepth 100000 in
theorem c_X8_append (l : Launch) (D : va_G) (cs : Nat → ClassId) (w : Nat → Nat) (M : MS) (p1 : Int32) (hd : mD w) (hl0 : vp_in (M.1.1 2) 121) : Met l yX8_append (wc yX8_append cX8_append 2 (some .int)) ({ frames := 1, cells := 0, slots := 0, locals := 25 } : Room) (va_Pc [.ref (w 0), .int p1] (PE D cs (mW cs w M))) (va_Qi (fun (r9 : Int32) (u : MS) => r9 = (sX8_append M p1).1 ∧ u = (sX8_append M p1).2) (fun u t => va_P D vwC (mW cs w u) t.heap) (mA w)) 0 0 (mA w) := by
  obtain ⟨v, hv⟩ : ∃ v, sX8_append M p1 = v := ⟨_, rfl⟩
  rw [hv]
  refine met_o (lv := [(0, .ref (w 0)), (1, .int p1)]) (by decide) (Nat.le_of_ble_eq_true rfl) rfl ?_
  intro p e s m args below meth c ls hx hb hr hml hts hown hlocks hin hP hE hl
  have hown : s.vm.findClass RX8 = some m.cls := hown
  have hK := hE.1
  have hP : va_P D vwC (mW cs w M) s.heap := hP
  have hS : va_S (mA w) s.heap s.heap [] := va_S.rf
  unfold sX8_append at hv
  refine lv_aload_n hx hb dX8_append_0 rfl (lv_at hl 0 rfl) ?_
  refine lv_iload_n hx hb dX8_append_1 rfl (lv_at hl 1 rfl) ?_
  refine lv_i2l hx hb dX8_append_2 rfl ?_
  refine lv_lconst (v := 0) hx hb dX8_append_3 (by decide) ?_
  refine lv_ldc2 (v := 255) hx hb hown (hts _ w_cn_X8_100) dX8_append_4 ?_
  refine ro_i (b2i (sX8_in p1.toInt64 (0 : Int64) (255 : Int64))) (run_c (va_runS (As := [.long p1.toInt64, .long (0 : Int64), .long (255 : Int64)]) (rest := [.ref (w 0)]) ⟨hx, hb, hml, hown, hts⟩ (c_X8_in l D cs p1.toInt64 (0 : Int64) (255 : Int64)) (cwS 3 hts (good_S w_ml_X8_42 w_st_X8_in w_in_X8 w_co_X8_in) rfl rfl rfl ⟨rfl, hd_X8_in⟩ ⟨Nat.le_of_ble_eq_true rfl, Nat.le_of_ble_eq_true rfl⟩) (pe_S (p_nil D _) hE) rfl rfl hl.1 rfl (lv_room (Nat.le_of_ble_eq_true rfl)) dX8_append_7 ⟨Nat.zero_le _, Nat.zero_le _⟩)) ?_
  refine join_i (J := 31) (ls := ls) (rest := [.ref (w 0)]) ((if (sX8_in p1.toInt64 (0 : Int64) (255 : Int64)) = true then (if (M.1.1 2) = 120 then (2 : Int32) else (0 : Int32)) else (1 : Int32))) ?_ (fun hJ => ?_)
  · refine w_b (refB (if (sX8_in p1.toInt64 (0 : Int64) (255 : Int64)) = true then (if (M.1.1 2) = 120 then (2 : Int32) else (0 : Int32)) else (1 : Int32)), (msS M 0 (if (sX8_in p1.toInt64 (0 : Int64) (255 : Int64)) = true then (if (M.1.1 2) = 120 then (2 : Int32) else (0 : Int32)) else (1 : Int32)))) (va_runV (As := [.int (if (sX8_in p1.toInt64 (0 : Int64) (255 : Int64)) = true then (if (M.1.1 2) = 120 then (2 : Int32) else (0 : Int32)) else (1 : Int32))]) (rest := []) ⟨hx, hb, hml, hown, hts⟩ (c_X8_refused l D cs w M (if (sX8_in p1.toInt64 (0 : Int64) (255 : Int64)) = true then (if (M.1.1 2) = 120 then (2 : Int32) else (0 : Int32)) else (1 : Int32)) hd) (cwV 1 hts (good_V w_ml_X8_105 w_im_X8_refused w_se_X8_refused w_in_X8 w_co_X8_refused) rfl rfl rfl ⟨rfl, hd_X8_refused⟩ ⟨Nat.le_of_ble_eq_true rfl, Nat.le_of_ble_eq_true rfl⟩) (pe_W (C := RX8) (T := TX8) (N := 14) (ci := 8) (q0 := 0) hP hE rfl rfl) rfl rfl hl.1 rfl (lv_room (Nat.le_of_ble_eq_true rfl)) dX8_append_31 ⟨Nat.zero_le _, Nat.zero_le _⟩) hS (fun _ _ h => h) (fun _ h => h) (fun t locs hB hz hk hS => ?_)
    have hP : va_P D vwC (mW cs w (msS M 0 (if (sX8_in p1.toInt64 (0 : Int64) (255 : Int64)) = true then (if (M.1.1 2) = 120 then (2 : Int32) else (0 : Int32)) else (1 : Int32)))) t.heap := hB
    refine lv_if_eq (tgt := 39) hx hb dX8_append_34 (by decide) (fun c34 => ?_) (fun c34 => ?_)
    · have c34 := b2i_f c34
      have hv := (if_neg c34).symm.trans hv
      have f1 := ift (by decide) (rf0 c34)
      have f2 := (ifn (by decide) f1.2).1
      refine lv_aload_n hx hb dX8_append_39 rfl (lv_at hl 0 rfl) ?_
      refine va_get (D := D) (ci := 8) (v := .ref (w 7)) (C := RX8) (T := TX8) (N := 14) hx hb hts iw_X8 hown hK hP 0 rfl rfl 8 (by decide) (hts _ w_fl_X8_29) (fun _ h9 => h9) rfl dX8_append_40 ?_
      refine lv_aload_n hx hb dX8_append_43 rfl (lv_at hl 0 rfl) ?_
      refine va_get (D := D) (ci := 8) (v := .int (M.1.1 2)) (C := RX8) (T := TX8) (N := 14) hx hb hts iw_X8 hown hK hP 0 rfl rfl 9 (by decide) (hts _ w_fl_X8_102) (fun _ h9 => h9) rfl dX8_append_44 ?_
      refine lv_iload_n hx hb dX8_append_47 rfl (lv_at hl 1 rfl) ?_
      refine va_iast (cA := cs 0) (n := 120) (f := (M.1.2 7)) hx hb hK hP (m_D cs (msS M 0 (if (sX8_in p1.toInt64 (0 : Int64) (255 : Int64)) = true then (if (M.1.1 2) = 120 then (2 : Int32) else (0 : Int32)) else (1 : Int32))) hd) hS 7 0 rfl rfl (vp_ne (n := 120) rfl hl0 f2) dX8_append_48 (fun H locs hP _ hS => ?_)
      have hP : va_P D vwC (mW cs w (msA (msS M 0 (if (sX8_in p1.toInt64 (0 : Int64) (255 : Int64)) = true then (if (M.1.1 2) = 120 then (2 : Int32) else (0 : Int32)) else (1 : Int32))) 7 (upd (M.1.2 7) (M.1.1 2).toNatClampNeg p1))) H := hP
      refine lv_aload_n hx hb dX8_append_49 rfl (lv_at hl 0 rfl) ?_
      refine lv_dup hx hb dX8_append_50 rfl ?_
      refine va_get (D := D) (ci := 8) (v := .int (M.1.1 2)) (C := RX8) (T := TX8) (N := 14) hx hb hts iw_X8 hown hK hP 0 rfl rfl 9 (by decide) (hts _ w_fl_X8_102) (fun _ h9 => h9) rfl dX8_append_51 ?_
      refine lv_iconst (v := 1) hx hb dX8_append_54 (by decide) ?_
      refine lv_iadd hx hb dX8_append_55 ?_
      refine va_put (D := D) (ci := 8) (v := .int ((M.1.1 2) + 1)) (ty := .int) (C := RX8) (T := TX8) (N := 14) hx hb hts iw_X8 tyX8 tyX8_ok nmX8 hown hK hP (m_D cs (msA (msS M 0 (if (sX8_in p1.toInt64 (0 : Int64) (255 : Int64)) = true then (if (M.1.1 2) = 120 then (2 : Int32) else (0 : Int32)) else (1 : Int32))) 7 (upd (M.1.2 7) (M.1.1 2).toNatClampNeg p1)) hd) hS 0 rfl rfl 9 (by decide) (hts _ w_fl_X8_102) (fun _ h9 => h9) rfl (by decide +kernel) rfl rfl (Nat.le_of_ble_eq_true rfl) dX8_append_56 (fun H locs hP _ hS => ?_)
      have hP : va_P D vwC (mW cs w (msS (msA (msS M 0 (if (sX8_in p1.toInt64 (0 : Int64) (255 : Int64)) = true then (if (M.1.1 2) = 120 then (2 : Int32) else (0 : Int32)) else (1 : Int32))) 7 (upd (M.1.2 7) (M.1.1 2).toNatClampNeg p1)) 2 ((M.1.1 2) + 1))) H := hP
      refine lv_aload_n hx hb dX8_append_59 rfl (lv_at hl 0 rfl) ?_
      refine va_get (D := D) (ci := 8) (v := .int ((M.1.1 2) + 1)) (C := RX8) (T := TX8) (N := 14) hx hb hts iw_X8 hown hK hP 0 rfl rfl 9 (by decide) (hts _ w_fl_X8_102) (fun _ h9 => h9) rfl dX8_append_60 ?_
      exact W.iret (v := (M.1.1 2) + 1) hx hb hr (fun t ht hW => ⟨⟨(M.1.1 2) + 1, (msS (msA (msS M 0 (if (sX8_in p1.toInt64 (0 : Int64) (255 : Int64)) = true then (if (M.1.1 2) = 120 then (2 : Int32) else (0 : Int32)) else (1 : Int32))) 7 (upd (M.1.2 7) (M.1.1 2).toNatClampNeg p1)) 2 ((M.1.1 2) + 1)), rfl, pair_eq hv, pw ht hP⟩, hS.F ht⟩) hS.2.2 dX8_append_63 (hlocks := hlocks)
    · have c34 := b2i_t c34
      have hv := (if_pos c34).symm.trans hv
      refine lv_iconst (v := 0) hx hb dX8_append_37 (by decide) ?_
      exact W.iret (v := 0) hx hb hr (fun t ht hW => ⟨⟨0, (msS M 0 (if (sX8_in p1.toInt64 (0 : Int64) (255 : Int64)) = true then (if (M.1.1 2) = 120 then (2 : Int32) else (0 : Int32)) else (1 : Int32))), rfl, pair_eq hv, pw ht hP⟩, hS.F ht⟩) hS.2.2 dX8_append_38 (hlocks := hlocks)
  · refine lv_if_ne (tgt := 17) hx hb dX8_append_10 (by decide) (fun c10 => ?_) (fun c10 => ?_)
    · have c10 := b2i_t c10
      refine lv_aload_n hx hb dX8_append_17 rfl (lv_at hl 0 rfl) ?_
      refine va_get (D := D) (ci := 8) (v := .int (M.1.1 2)) (C := RX8) (T := TX8) (N := 14) hx hb hts iw_X8 hown hK hP 0 rfl rfl 9 (by decide) (hts _ w_fl_X8_102) (fun _ h9 => h9) rfl dX8_append_18 ?_
      refine lv_bipush (v := 120) hx hb dX8_append_21 (by decide) ?_
      refine lv_icmp_ne (tgt := 30) hx hb dX8_append_23 (by decide) (fun c23 => ?_) (fun c23 => ?_)
      · refine lv_iconst (v := 0) hx hb dX8_append_30 (by decide) ?_
        exact hJ _ ((if_pos c10).trans ((if_neg c23).trans rfl))
      · refine lv_iconst (v := 2) hx hb dX8_append_26 (by decide) ?_
        refine lv_goto (tgt := 31) hx hb dX8_append_27 (by decide) ?_
        exact hJ _ ((if_pos c10).trans ((if_pos c23).trans rfl))
    · have c10 := b2i_f c10
      refine lv_iconst (v := 1) hx hb dX8_append_13 (by decide) ?_
      refine lv_goto (tgt := 31) hx hb dX8_append_14 (by decide) ?_
      exact hJ _ ((if_neg c10).trans rfl)
theorem hd_X8_clearText : yX8_clearText.cls ≠ "java/lang/invoke/MethodHandle" ∧ yX8_clearText.cls ≠ "java/lang/invoke/VarHandle" ∧ (parseMethodDescriptor yX8_clearText.desc).map (fun d => d.parameters.length) = some 0 := by decide +kernel
def sX8_clearText (M : MS) : Int32 × MS := ((M.1.1 2), (msS (msS M 0 0) 2 0))
set_option maxHeartbeats 4000000 in
set_option maxRecDepth 100000 in
theorem c_X8_clearText (l : Launch) (D : va_G) (cs : Nat → ClassId) (w : Nat → Nat) (M : MS) (hd : mD w) : Met l yX8_clearText (wc yX8_clearText cX8_clearText 2 (some .int)) ({ frames := 0, cells := 0, slots := 0, locals := 0 } : Room) (va_Pc [.ref (w 0)] (PE D cs (mW cs w M))) (va_Qi (fun (r9 : Int32) (u : MS) => r9 = (sX8_clearText M).1 ∧ u = (sX8_clearText M).2) (fun u t => va_P D vwC (mW cs w u) t.heap) (mA w)) 0 0 (mA w) := by
  obtain ⟨v, hv⟩ : ∃ v, sX8_clearText M = v := ⟨_, rfl⟩
  rw [hv]
  refine met_o (lv := [(0, .ref (w 0))]) (by decide) (Nat.le_of_ble_eq_true rfl) rfl ?_
  intro p e s m args below meth c ls hx hb hr hml hts hown hlocks hin hP hE hl
  have hown : s.vm.findClass RX8 = some m.cls := hown
  have hK := hE.1
  have hP : va_P D vwC (mW cs w M) s.heap := hP
  have hS : va_S (mA w) s.heap s.heap [] := va_S.rf
  unfold sX8_clearText at hv
  refine lv_aload_n hx hb dX8_clearText_0 rfl (lv_at hl 0 rfl) ?_
  refine lv_iconst (v := 0) hx hb dX8_clearText_1 (by decide) ?_
  refine va_put (D := D) (ci := 8) (v := .int 0) (ty := .int) (C := RX8) (T := TX8) (N := 14) hx hb hts iw_X8 tyX8 tyX8_ok nmX8 hown hK hP (m_D cs M hd) hS 0 rfl rfl 0 (by decide) (hts _ w_fl_X8_36) (fun _ h9 => h9) rfl (by decide +kernel) rfl rfl (Nat.le_of_ble_eq_true rfl) dX8_clearText_2 (fun H locs hP _ hS => ?_)
  have hP : va_P D vwC (mW cs w (msS M 0 0)) H := hP
  refine lv_aload_n hx hb dX8_clearText_5 rfl (lv_at hl 0 rfl) ?_
  refine va_get (D := D) (ci := 8) (v := .int (M.1.1 2)) (C := RX8) (T := TX8) (N := 14) hx hb hts iw_X8 hown hK hP 0 rfl rfl 9 (by decide) (hts _ w_fl_X8_102) (fun _ h9 => h9) rfl dX8_clearText_6 ?_
  refine lv_istore_n (lv' := [(1, .int (M.1.1 2)), (0, .ref (w 0))]) hx hb dX8_clearText_9 rfl hl (by decide) rfl (fun ls hl => ?_)
  refine lv_aload_n hx hb dX8_clearText_10 rfl (lv_at hl 1 rfl) ?_
  refine lv_iconst (v := 0) hx hb dX8_clearText_11 (by decide) ?_
  refine va_put (D := D) (ci := 8) (v := .int 0) (ty := .int) (C := RX8) (T := TX8) (N := 14) hx hb hts iw_X8 tyX8 tyX8_ok nmX8 hown hK hP (m_D cs (msS M 0 0) hd) hS 0 rfl rfl 9 (by decide) (hts _ w_fl_X8_102) (fun _ h9 => h9) rfl (by decide +kernel) rfl rfl (Nat.le_of_ble_eq_true rfl) dX8_clearText_12 (fun H locs hP _ hS => ?_)
  have hP : va_P D vwC (mW cs w (msS (msS M 0 0) 2 0)) H := hP
  refine lv_iload_n hx hb dX8_clearText_15 rfl (lv_at hl 0 rfl) ?_
  exact W.iret (v := (M.1.1 2)) hx hb hr (fun t ht hW => ⟨⟨(M.1.1 2), (msS (msS M 0 0) 2 0), rfl, pair_eq hv, pw ht hP⟩, hS.F ht⟩) hS.2.2 dX8_clearText_16 (hlocks := hlocks)
