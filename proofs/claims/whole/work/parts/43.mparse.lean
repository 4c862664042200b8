/-- how far a loop over the text can go -/
def rcM (M : MS) (b : Bool) : Nat := 2 * ((M.1.1 2).toInt - (M.1.1 3).toInt).toNat + (if b = true then 1 else 0)
theorem rc_0 {M N : MS} {x b : Bool} {n : Nat} (h : PR M N) (c : ¬ b = true) (cx : x = true) (hm : rcM M x < n + 1) : rcM N b < n := by
  rw [cx] at hm
  have e := h.2.2.1 2 (by decide) (by decide) (by decide)
  have h1 := h.2.1
  have h2 := h.1.1
  unfold rcM at hm ⊢
  rw [e] at h2 ⊢
  rw [if_pos rfl] at hm
  rw [if_neg c]
  omega
theorem rc_1 {M N : MS} {x b : Bool} {n : Nat} (h : PR M N) (hl : (M.1.1 3).toInt < (N.1.1 3).toInt) (cx : x = true) (hm : rcM M x < n + 1) : rcM N b < n := by
  rw [cx] at hm
  have e := h.2.2.1 2 (by decide) (by decide) (by decide)
  have h2 := h.1.1
  unfold rcM at hm ⊢
  rw [e] at h2 ⊢
  rw [if_pos rfl] at hm
  have h3 : (if b = true then 1 else 0) ≤ 1 := by by_cases c : b = true; rw [if_pos c]; exact Nat.le_refl _; rw [if_neg c]; exact Nat.zero_le _
  omega
theorem tk_up {M : MS} (h : RI M) (hg : M.2 = true) (hl : (M.1.1 3).toInt < (M.1.1 2).toInt) : (M.1.1 3).toInt < ((sX8_take M true).1.1 3).toInt := by
  have e : (sX8_take M true).1.1 3 = M.1.1 3 + 1 := by
    show M.1.1 3 + (b2i (if (if M.2 = true then (if true = true then true else false) else false) = true then true else false)) = M.1.1 3 + 1
    rw [if_pos hg]
    rfl
  rw [e, inc_ti (n := 120) (vp_in_iff.mpr ⟨h.1.1, by have := h.1.2.2; omega⟩) (by omega)]
  omega
theorem rd_t {A B C D : Prop} [Decidable A] [Decidable B] [Decidable C] [Decidable D] (h : (if A then (if B then (if C then true else false) else (if D then (if C then true else false) else false)) else false) = true) : (B ∨ D) ∧ C := by
  by_cases a : A
  · rw [if_pos a] at h
    by_cases b : B
    · rw [if_pos b] at h
      by_cases c : C
      · exact ⟨Or.inl b, c⟩
      · rw [if_neg c] at h; exact nomatch h
    · rw [if_neg b] at h
      by_cases d : D
      · rw [if_pos d] at h
        by_cases c : C
        · exact ⟨Or.inr d, c⟩
        · rw [if_neg c] at h; exact nomatch h
      · rw [if_neg d] at h; exact nomatch h
  · rw [if_neg a] at h; exact nomatch h
theorem rb_t {A B : Prop} [Decidable A] [Decidable B] (h : (if A then (if B then true else false) else false) = true) : A ∧ B := by
  by_cases a : A
  · rw [if_pos a] at h
    by_cases b : B
    · exact ⟨a, b⟩
    · rw [if_neg b] at h; exact nomatch h
  · rw [if_neg a] at h; exact nomatch h
theorem ra_t {A B C : Prop} [Decidable A] [Decidable B] [Decidable C] (h : (if A then (if B then (if C then true else false) else false) else false) = true) : B ∧ C := by
  by_cases a : A
  · rw [if_pos a] at h; exact rb_t h
  · rw [if_neg a] at h; exact nomatch h
theorem rg_t {A B C : Prop} [Decidable A] [Decidable B] [Decidable C] (h : (if A then (if B then (if C then true else false) else false) else false) = true) : A ∧ B ∧ C := by
  by_cases a : A
  · rw [if_pos a] at h; exact ⟨a, rb_t h⟩
  · rw [if_neg a] at h; exact nomatch h
theorem here_l {M : MS} {c : Int32} (h : sX8_here M = c) (hc : c ≠ -1) : (M.1.1 3).toInt < (M.1.1 2).toInt := here_lt (fun q => hc (h.symm.trans q))
theorem less_l {a b : Int32} (h : ¬ b ≤ a) : a.toInt < b.toInt := by
  have h5 : ¬ b.toInt ≤ a.toInt := fun q => h (i32_le.mpr q)
  omega
def rlM (M : MS) : Nat := ((M.1.1 2).toInt - (M.1.1 3).toInt).toNat
theorem rl_s {M N : MS} {n : Nat} (h : PR M N) (hl : (M.1.1 3).toInt < (N.1.1 3).toInt) (hm : rlM M < n + 1) : rlM N < n := by
  have e := h.2.2.1 2 (by decide) (by decide) (by decide)
  have h2 := h.1.1
  unfold rlM at hm ⊢
  rw [e] at h2 ⊢
  omega
theorem PR.th {M N K : MS} (h : PR M N) (k : RI N → PR N K) : PR M K := h.tr (k h.1)
theorem at1_m {r : Nat → Int32} (hv : MV r) : at1 r (-1) := by
  have z : (-1 : Int32).toInt = -1 := rfl
  have h := hv.1.1
  unfold at1
  rw [z]
  omega
theorem hd_X8_readCloud : yX8_readCloud.cls ≠ "java/lang/invoke/MethodHandle" ∧ yX8_readCloud.cls ≠ "java/lang/invoke/VarHandle" ∧ (parseMethodDescriptor yX8_readCloud.desc).map (fun d => d.parameters.length) = some 0 := by decide +kernel
def LX8_readCloud_9 (M : MS) : Nat → Int32 → Bool → MS → MS
  | 0 => fun _ _ _ => M
  | n + 1 => fun x1 x2 O9 => (if O9.2 = true then (if x2 = true then (if (if (if ((((sX8_number O9 0 11)).2).2) = true then (if (((sX8_number O9 0 11)).1) ≤ x1 then false else true) else false) = true then (if (sX8_here (msS (msG (((sX8_number O9 0 11)).2) (if ((((sX8_number O9 0 11)).2).2) = true then (if (((sX8_number O9 0 11)).1) ≤ x1 then false else true) else false)) 6 (((((sX8_number O9 0 11)).2).1.1 6) ||| (if (if ((((sX8_number O9 0 11)).2).2) = true then (if (((sX8_number O9 0 11)).1) ≤ x1 then false else true) else false) = true then 1 <<< ((((sX8_number O9 0 11)).1) &&& 31) else (0 : Int32))))) = 44 then true else false) else false) = true then (LX8_readCloud_9 M n (((sX8_number O9 0 11)).1) (if (if ((((sX8_number O9 0 11)).2).2) = true then (if (((sX8_number O9 0 11)).1) ≤ x1 then false else true) else false) = true then (if (sX8_here (msS (msG (((sX8_number O9 0 11)).2) (if ((((sX8_number O9 0 11)).2).2) = true then (if (((sX8_number O9 0 11)).1) ≤ x1 then false else true) else false)) 6 (((((sX8_number O9 0 11)).2).1.1 6) ||| (if (if ((((sX8_number O9 0 11)).2).2) = true then (if (((sX8_number O9 0 11)).1) ≤ x1 then false else true) else false) = true then 1 <<< ((((sX8_number O9 0 11)).1) &&& 31) else (0 : Int32))))) = 44 then true else false) else false) ((sX8_take (msS (msG (((sX8_number O9 0 11)).2) (if ((((sX8_number O9 0 11)).2).2) = true then (if (((sX8_number O9 0 11)).1) ≤ x1 then false else true) else false)) 6 (((((sX8_number O9 0 11)).2).1.1 6) ||| (if (if ((((sX8_number O9 0 11)).2).2) = true then (if (((sX8_number O9 0 11)).1) ≤ x1 then false else true) else false) = true then 1 <<< ((((sX8_number O9 0 11)).1) &&& 31) else (0 : Int32)))) true))) else (LX8_readCloud_9 M n (((sX8_number O9 0 11)).1) (if (if ((((sX8_number O9 0 11)).2).2) = true then (if (((sX8_number O9 0 11)).1) ≤ x1 then false else true) else false) = true then (if (sX8_here (msS (msG (((sX8_number O9 0 11)).2) (if ((((sX8_number O9 0 11)).2).2) = true then (if (((sX8_number O9 0 11)).1) ≤ x1 then false else true) else false)) 6 (((((sX8_number O9 0 11)).2).1.1 6) ||| (if (if ((((sX8_number O9 0 11)).2).2) = true then (if (((sX8_number O9 0 11)).1) ≤ x1 then false else true) else false) = true then 1 <<< ((((sX8_number O9 0 11)).1) &&& 31) else (0 : Int32))))) = 44 then true else false) else false) (msS (msG (((sX8_number O9 0 11)).2) (if ((((sX8_number O9 0 11)).2).2) = true then (if (((sX8_number O9 0 11)).1) ≤ x1 then false else true) else false)) 6 (((((sX8_number O9 0 11)).2).1.1 6) ||| (if (if ((((sX8_number O9 0 11)).2).2) = true then (if (((sX8_number O9 0 11)).1) ≤ x1 then false else true) else false) = true then 1 <<< ((((sX8_number O9 0 11)).1) &&& 31) else (0 : Int32)))))) else O9) else O9)
theorem LX8_readCloud_9_eq (M : MS) (n : Nat) (x1 : Int32) (x2 : Bool) (O9 : MS) : LX8_readCloud_9 M (n + 1) x1 x2 O9 = (if O9.2 = true then (if x2 = true then (if (if (if ((((sX8_number O9 0 11)).2).2) = true then (if (((sX8_number O9 0 11)).1) ≤ x1 then false else true) else false) = true then (if (sX8_here (msS (msG (((sX8_number O9 0 11)).2) (if ((((sX8_number O9 0 11)).2).2) = true then (if (((sX8_number O9 0 11)).1) ≤ x1 then false else true) else false)) 6 (((((sX8_number O9 0 11)).2).1.1 6) ||| (if (if ((((sX8_number O9 0 11)).2).2) = true then (if (((sX8_number O9 0 11)).1) ≤ x1 then false else true) else false) = true then 1 <<< ((((sX8_number O9 0 11)).1) &&& 31) else (0 : Int32))))) = 44 then true else false) else false) = true then (LX8_readCloud_9 M n (((sX8_number O9 0 11)).1) (if (if ((((sX8_number O9 0 11)).2).2) = true then (if (((sX8_number O9 0 11)).1) ≤ x1 then false else true) else false) = true then (if (sX8_here (msS (msG (((sX8_number O9 0 11)).2) (if ((((sX8_number O9 0 11)).2).2) = true then (if (((sX8_number O9 0 11)).1) ≤ x1 then false else true) else false)) 6 (((((sX8_number O9 0 11)).2).1.1 6) ||| (if (if ((((sX8_number O9 0 11)).2).2) = true then (if (((sX8_number O9 0 11)).1) ≤ x1 then false else true) else false) = true then 1 <<< ((((sX8_number O9 0 11)).1) &&& 31) else (0 : Int32))))) = 44 then true else false) else false) ((sX8_take (msS (msG (((sX8_number O9 0 11)).2) (if ((((sX8_number O9 0 11)).2).2) = true then (if (((sX8_number O9 0 11)).1) ≤ x1 then false else true) else false)) 6 (((((sX8_number O9 0 11)).2).1.1 6) ||| (if (if ((((sX8_number O9 0 11)).2).2) = true then (if (((sX8_number O9 0 11)).1) ≤ x1 then false else true) else false) = true then 1 <<< ((((sX8_number O9 0 11)).1) &&& 31) else (0 : Int32)))) true))) else (LX8_readCloud_9 M n (((sX8_number O9 0 11)).1) (if (if ((((sX8_number O9 0 11)).2).2) = true then (if (((sX8_number O9 0 11)).1) ≤ x1 then false else true) else false) = true then (if (sX8_here (msS (msG (((sX8_number O9 0 11)).2) (if ((((sX8_number O9 0 11)).2).2) = true then (if (((sX8_number O9 0 11)).1) ≤ x1 then false else true) else false)) 6 (((((sX8_number O9 0 11)).2).1.1 6) ||| (if (if ((((sX8_number O9 0 11)).2).2) = true then (if (((sX8_number O9 0 11)).1) ≤ x1 then false else true) else false) = true then 1 <<< ((((sX8_number O9 0 11)).1) &&& 31) else (0 : Int32))))) = 44 then true else false) else false) (msS (msG (((sX8_number O9 0 11)).2) (if ((((sX8_number O9 0 11)).2).2) = true then (if (((sX8_number O9 0 11)).1) ≤ x1 then false else true) else false)) 6 (((((sX8_number O9 0 11)).2).1.1 6) ||| (if (if ((((sX8_number O9 0 11)).2).2) = true then (if (((sX8_number O9 0 11)).1) ≤ x1 then false else true) else false) = true then 1 <<< ((((sX8_number O9 0 11)).1) &&& 31) else (0 : Int32)))))) else O9) else O9) := rfl
def sX8_readCloud (M : MS) : MS := (LX8_readCloud_9 M (rcM (msS M 6 0) true + 1) (-1) true (msS M 6 0))
set_option maxHeartbeats 4000000 in
set_option maxRecDepth 100000 in
theorem c_X8_readCloud (l : Launch) (D : va_G) (cs : Nat → ClassId) (w : Nat → Nat) (M : MS) (hd : mD w) (hri : RI M) : Met l yX8_readCloud (wc yX8_readCloud cX8_readCloud 4 none) ({ frames := 3, cells := 0, slots := 0, locals := 72 } : Room) (va_Pc [.ref (w 0)] (PE D cs (mW cs w M))) (va_Qv (fun u : MS => u = (sX8_readCloud M)) (fun u t => va_P D vwC (mW cs w u) t.heap) (mA w)) 0 0 (mA w) := by
  obtain ⟨v, hv⟩ : ∃ v, sX8_readCloud M = v := ⟨_, rfl⟩
  rw [hv]
  refine met_o (lv := [(0, .ref (w 0))]) (by decide) (Nat.le_of_ble_eq_true rfl) rfl ?_
  intro p e s m args below meth c ls hx hb hr hml hts hown hlocks hin hP hE hl
  have hown : s.vm.findClass RX8 = some m.cls := hown
  have hK := hE.1
  have hP : va_P D vwC (mW cs w M) s.heap := hP
  have hS : va_S (mA w) s.heap s.heap [] := va_S.rf
  unfold sX8_readCloud at hv
  refine lv_iconst (v := (-1)) hx hb dX8_readCloud_0 (by decide) ?_
  refine lv_istore_n (lv' := [(1, .int (-1)), (0, .ref (w 0))]) hx hb dX8_readCloud_1 rfl hl (by decide) rfl (fun ls hl => ?_)
  refine lv_iconst (v := 1) hx hb dX8_readCloud_2 (by decide) ?_
  refine lv_istore_n (lv' := [(2, .int 1), (1, .int (-1)), (0, .ref (w 0))]) hx hb dX8_readCloud_3 rfl hl (by decide) rfl (fun ls hl => ?_)
  refine lv_aload_n hx hb dX8_readCloud_4 rfl (lv_at hl 2 rfl) ?_
  refine lv_iconst (v := 0) hx hb dX8_readCloud_5 (by decide) ?_
  refine va_put (D := D) (ci := 8) (v := .int 0) (ty := .int) (C := RX8) (T := TX8) (N := 14) hx hb hts iw_X8 tyX8 tyX8_ok nmX8 hown hK hP (m_D cs M hd) hS 0 rfl rfl 13 (by decide) (hts _ w_fl_X8_153) (fun _ h9 => h9) rfl (by decide +kernel) rfl rfl (Nat.le_of_ble_eq_true rfl) dX8_readCloud_6 (fun H locs hP _ hS => ?_)
  have hP : va_P D vwC (mW cs w (msS M 6 0)) H := hP
  have LOOP : ∀ (n : Nat) (x1 : Int32) (x2 : Bool) (O9 : MS), rcM O9 x2 < n → (RI O9) → LX8_readCloud_9 M n x1 x2 O9 = v → ∀ (H : Heap) (locs : List Loc), va_P D vwC (mW cs w O9) H → va_S (mA w) s.heap H locs → ∀ ls : Array Slot, lv_has ls 4 [(0, .ref (w 0)), (1, .int x1), (2, .int (b2i x2))] → W p l e ({ frames := 3, cells := 0, slots := 0, locals := 72 } : Room) s m args below meth c H locs 0 0 (MQ below (va_Qv (fun u : MS => u = v) (fun u t => va_P D vwC (mW cs w u) t.heap) (mA w)) args s 0 0 (mA w)) (F0 m 9 ls []) := by
    clear hv
    intro n
    induction n with
    | zero => intro x1 x2 O9 hm; exact absurd hm (Nat.not_lt_zero _)
    | succ n ih =>
      intro x1 x2 O9 hm i0 hv H locs hP hS ls hl
      have hv := (LX8_readCloud_9_eq M n x1 x2 O9).symm.trans hv
      refine lv_aload_n hx hb dX8_readCloud_9 rfl (lv_at hl 0 rfl) ?_
      refine va_get (D := D) (ci := 8) (v := .int (b2i O9.2)) (C := RX8) (T := TX8) (N := 14) hx hb hts iw_X8 hown hK hP 0 rfl rfl 11 (by decide) (hts _ w_fl_X8_112) (fun _ h9 => h9) rfl dX8_readCloud_10 ?_
      refine lv_if_eq (tgt := 108) hx hb dX8_readCloud_13 (by decide) (fun c13 => ?_) (fun c13 => ?_)
      · have c13 := b2i_f c13
        have hv := (if_neg c13).symm.trans hv
        exact W.vret hx hb hr (fun t ht hW => ⟨⟨O9, rfl, hv, pw ht hP⟩, hS.F ht⟩) hS.2.2 dX8_readCloud_108 (hlocks := hlocks)
      · have c13 := b2i_t c13
        have hv := (if_pos c13).symm.trans hv
        refine lv_iload_n hx hb dX8_readCloud_16 rfl (lv_at hl 2 rfl) ?_
        refine lv_if_eq (tgt := 108) hx hb dX8_readCloud_17 (by decide) (fun c17 => ?_) (fun c17 => ?_)
        · have c17 := b2i_f c17
          have hv := (if_neg c17).symm.trans hv
          exact W.vret hx hb hr (fun t ht hW => ⟨⟨O9, rfl, hv, pw ht hP⟩, hS.F ht⟩) hS.2.2 dX8_readCloud_108 (hlocks := hlocks)
        · have c17 := b2i_t c17
          have hv := (if_pos c17).symm.trans hv
          refine lv_aload_n hx hb dX8_readCloud_20 rfl (lv_at hl 0 rfl) ?_
          refine lv_iconst (v := 0) hx hb dX8_readCloud_21 (by decide) ?_
          refine lv_bipush (v := 11) hx hb dX8_readCloud_22 (by decide) ?_
          obtain ⟨G24, hG24⟩ : ∃ G, sX8_number O9 0 11 = G := ⟨_, rfl⟩
          have k24 := (c_X8_number l D cs w O9 0 11 hd i0 (by decide))
          rw [hG24] at k24
          rw [hG24] at hv
          refine w_i (G24) (va_runV (As := [.int 0, .int 11]) (rest := []) ⟨hx, hb, hml, hown, hts⟩ k24 (cwV 2 hts (good_V w_ml_X8_156 w_im_X8_number w_se_X8_number w_in_X8 w_co_X8_number) rfl rfl rfl ⟨rfl, hd_X8_number⟩ ⟨Nat.le_of_ble_eq_true rfl, Nat.le_of_ble_eq_true rfl⟩) (pe_W (C := RX8) (T := TX8) (N := 14) (ci := 8) (q0 := 0) hP hE rfl rfl) rfl rfl hl.1 rfl (lv_room (Nat.le_of_ble_eq_true rfl)) dX8_readCloud_24 ⟨Nat.zero_le _, Nat.zero_le _⟩) hS (fun _ _ h => h) (fun _ h => h) (fun t locs hB hz hk hS => ?_)
          have hP : va_P D vwC (mW cs w ((G24).2)) t.heap := hB
          have p0 : PR O9 G24.2 := by rw [← hG24]; exact PR_number i0 (by decide)
          refine lv_istore_n (lv' := [(3, .int ((G24).1)), (0, .ref (w 0)), (1, .int x1), (2, .int (b2i x2))]) hx hb dX8_readCloud_27 rfl hl (by decide) rfl (fun ls hl => ?_)
          refine lv_aload_n hx hb dX8_readCloud_28 rfl (lv_at hl 1 rfl) ?_
          refine lv_aload_n hx hb dX8_readCloud_29 rfl (lv_at hl 1 rfl) ?_
          refine va_get (D := D) (ci := 8) (v := .int (b2i (((G24).2).2))) (C := RX8) (T := TX8) (N := 14) hx hb hts iw_X8 hown hK hP 0 rfl rfl 11 (by decide) (hts _ w_fl_X8_112) (fun _ h9 => h9) rfl dX8_readCloud_30 ?_
          refine join_i (J := 46) (ls := ls) (rest := [.ref (w 0)]) (b2i (if (((G24).2).2) = true then (if ((G24).1) ≤ x1 then false else true) else false)) ?_ (fun hJ => ?_)
          · refine va_put (D := D) (ci := 8) (v := .int (b2i (if (((G24).2).2) = true then (if ((G24).1) ≤ x1 then false else true) else false))) (ty := .boolean) (C := RX8) (T := TX8) (N := 14) hx hb hts iw_X8 tyX8 tyX8_ok nmX8 hown hK hP (m_D cs ((G24).2) hd) hS 0 rfl rfl 11 (by decide) (hts _ w_fl_X8_112) (fun _ h9 => h9) rfl (by decide +kernel) (b2i_nar _) (b2i_fit _) (Nat.le_of_ble_eq_true rfl) dX8_readCloud_46 (fun H locs hP _ hS => ?_)
            have hP : va_P D vwC (mW cs w (msG ((G24).2) (if (((G24).2).2) = true then (if ((G24).1) ≤ x1 then false else true) else false))) H := hP
            refine lv_aload_n hx hb dX8_readCloud_49 rfl (lv_at hl 1 rfl) ?_
            refine lv_dup hx hb dX8_readCloud_50 rfl ?_
            refine va_get (D := D) (ci := 8) (v := .int (((G24).2).1.1 6)) (C := RX8) (T := TX8) (N := 14) hx hb hts iw_X8 hown hK hP 0 rfl rfl 13 (by decide) (hts _ w_fl_X8_153) (fun _ h9 => h9) rfl dX8_readCloud_51 ?_
            refine lv_aload_n hx hb dX8_readCloud_54 rfl (lv_at hl 1 rfl) ?_
            refine va_get (D := D) (ci := 8) (v := .int (b2i (if (((G24).2).2) = true then (if ((G24).1) ≤ x1 then false else true) else false))) (C := RX8) (T := TX8) (N := 14) hx hb hts iw_X8 hown hK hP 0 rfl rfl 11 (by decide) (hts _ w_fl_X8_112) (fun _ h9 => h9) rfl dX8_readCloud_55 ?_
            refine join_i (J := 68) (ls := ls) (rest := [.int (((G24).2).1.1 6), .ref (w 0)]) ((if (if (((G24).2).2) = true then (if ((G24).1) ≤ x1 then false else true) else false) = true then 1 <<< (((G24).1) &&& 31) else (0 : Int32))) ?_ (fun hJ => ?_)
            · refine lv_ior hx hb dX8_readCloud_68 ?_
              refine va_put (D := D) (ci := 8) (v := .int ((((G24).2).1.1 6) ||| (if (if (((G24).2).2) = true then (if ((G24).1) ≤ x1 then false else true) else false) = true then 1 <<< (((G24).1) &&& 31) else (0 : Int32)))) (ty := .int) (C := RX8) (T := TX8) (N := 14) hx hb hts iw_X8 tyX8 tyX8_ok nmX8 hown hK hP (m_D cs (msG ((G24).2) (if (((G24).2).2) = true then (if ((G24).1) ≤ x1 then false else true) else false)) hd) hS 0 rfl rfl 13 (by decide) (hts _ w_fl_X8_153) (fun _ h9 => h9) rfl (by decide +kernel) rfl rfl (Nat.le_of_ble_eq_true rfl) dX8_readCloud_69 (fun H locs hP _ hS => ?_)
              have hP : va_P D vwC (mW cs w (msS (msG ((G24).2) (if (((G24).2).2) = true then (if ((G24).1) ≤ x1 then false else true) else false)) 6 ((((G24).2).1.1 6) ||| (if (if (((G24).2).2) = true then (if ((G24).1) ≤ x1 then false else true) else false) = true then 1 <<< (((G24).1) &&& 31) else (0 : Int32))))) H := hP
              refine lv_iload_n hx hb dX8_readCloud_72 rfl (lv_at hl 0 rfl) ?_
              refine lv_istore_n (lv' := [(1, .int ((G24).1)), (3, .int ((G24).1)), (0, .ref (w 0)), (2, .int (b2i x2))]) hx hb dX8_readCloud_73 rfl hl (by decide) rfl (fun ls hl => ?_)
              refine lv_aload_n hx hb dX8_readCloud_74 rfl (lv_at hl 2 rfl) ?_
              refine va_get (D := D) (ci := 8) (v := .int (b2i (if (((G24).2).2) = true then (if ((G24).1) ≤ x1 then false else true) else false))) (C := RX8) (T := TX8) (N := 14) hx hb hts iw_X8 hown hK hP 0 rfl rfl 11 (by decide) (hts _ w_fl_X8_112) (fun _ h9 => h9) rfl dX8_readCloud_75 ?_
              refine join_i (J := 95) (ls := ls) (rest := []) (b2i (if (if (((G24).2).2) = true then (if ((G24).1) ≤ x1 then false else true) else false) = true then (if (sX8_here (msS (msG ((G24).2) (if (((G24).2).2) = true then (if ((G24).1) ≤ x1 then false else true) else false)) 6 ((((G24).2).1.1 6) ||| (if (if (((G24).2).2) = true then (if ((G24).1) ≤ x1 then false else true) else false) = true then 1 <<< (((G24).1) &&& 31) else (0 : Int32))))) = 44 then true else false) else false)) ?_ (fun hJ => ?_)
              · refine lv_istore_n (lv' := [(2, .int (b2i (if (if (((G24).2).2) = true then (if ((G24).1) ≤ x1 then false else true) else false) = true then (if (sX8_here (msS (msG ((G24).2) (if (((G24).2).2) = true then (if ((G24).1) ≤ x1 then false else true) else false)) 6 ((((G24).2).1.1 6) ||| (if (if (((G24).2).2) = true then (if ((G24).1) ≤ x1 then false else true) else false) = true then 1 <<< (((G24).1) &&& 31) else (0 : Int32))))) = 44 then true else false) else false))), (1, .int ((G24).1)), (3, .int ((G24).1)), (0, .ref (w 0))]) hx hb dX8_readCloud_95 rfl hl (by decide) rfl (fun ls hl => ?_)
                refine lv_iload_n hx hb dX8_readCloud_96 rfl (lv_at hl 0 rfl) ?_
                have p1 : PR O9 (msS (msG ((G24).2) (if (((G24).2).2) = true then (if ((G24).1) ≤ x1 then false else true) else false)) 6 ((((G24).2).1.1 6) ||| (if (if (((G24).2).2) = true then (if ((G24).1) ≤ x1 then false else true) else false) = true then 1 <<< (((G24).1) &&& 31) else (0 : Int32)))) := p0.tr ((PR_g _ p0.1).tr (PR_s6 _ (PR_g _ p0.1).1))
                refine lv_if_eq (tgt := 105) hx hb dX8_readCloud_97 (by decide) (fun c97 => ?_) (fun c97 => ?_)
                · have c97 := b2i_f c97
                  have hv := (if_neg c97).symm.trans hv
                  refine lv_goto (tgt := 9) hx hb dX8_readCloud_105 (by decide) ?_
                  exact ih ((G24).1) (if (if (((G24).2).2) = true then (if ((G24).1) ≤ x1 then false else true) else false) = true then (if (sX8_here (msS (msG ((G24).2) (if (((G24).2).2) = true then (if ((G24).1) ≤ x1 then false else true) else false)) 6 ((((G24).2).1.1 6) ||| (if (if (((G24).2).2) = true then (if ((G24).1) ≤ x1 then false else true) else false) = true then 1 <<< (((G24).1) &&& 31) else (0 : Int32))))) = 44 then true else false) else false) (msS (msG ((G24).2) (if (((G24).2).2) = true then (if ((G24).1) ≤ x1 then false else true) else false)) 6 ((((G24).2).1.1 6) ||| (if (if (((G24).2).2) = true then (if ((G24).1) ≤ x1 then false else true) else false) = true then 1 <<< (((G24).1) &&& 31) else (0 : Int32)))) (by first | exact rc_0 p1 c97 c17 hm | exact rc_1 (by rw [← hG102]; exact p1.tr (PR_take p1.1 (fun _ => q2))) (by rw [← hG102]; exact Int.lt_of_le_of_lt p1.2.1 q3) c17 hm) (by first | exact p1.1 | (rw [← hG102]; exact (PR_take p1.1 (fun _ => q2)).1)) hv _ _ hP hS ls (lv_sub hl [3, 1, 0] rfl)
                · have c97 := b2i_t c97
                  have hv := (if_pos c97).symm.trans hv
                  have q1 := rb_t c97
                  have q2 := here_l q1.2 (by decide)
                  have q3 := tk_up p1.1 q1.1 q2
                  refine lv_aload_n hx hb dX8_readCloud_100 rfl (lv_at hl 3 rfl) ?_
                  refine lv_iconst (v := 1) hx hb dX8_readCloud_101 (by decide) ?_
                  obtain ⟨G102, hG102⟩ : ∃ G, sX8_take (msS (msG ((G24).2) (if (((G24).2).2) = true then (if ((G24).1) ≤ x1 then false else true) else false)) 6 ((((G24).2).1.1 6) ||| (if (if (((G24).2).2) = true then (if ((G24).1) ≤ x1 then false else true) else false) = true then 1 <<< (((G24).1) &&& 31) else (0 : Int32)))) true = G := ⟨_, rfl⟩
                  have k102 := (c_X8_take l D cs w (msS (msG ((G24).2) (if (((G24).2).2) = true then (if ((G24).1) ≤ x1 then false else true) else false)) 6 ((((G24).2).1.1 6) ||| (if (if (((G24).2).2) = true then (if ((G24).1) ≤ x1 then false else true) else false) = true then 1 <<< (((G24).1) &&& 31) else (0 : Int32)))) true hd)
                  rw [hG102] at k102
                  rw [hG102] at hv
                  refine w_v (G102) (va_runV (As := [.int (b2i true)]) (rest := []) ⟨hx, hb, hml, hown, hts⟩ k102 (cwV 1 hts (good_V w_ml_X8_120 w_im_X8_take w_se_X8_take w_in_X8 w_co_X8_take) rfl rfl rfl ⟨rfl, hd_X8_take⟩ ⟨Nat.le_of_ble_eq_true rfl, Nat.le_of_ble_eq_true rfl⟩) (pe_W (C := RX8) (T := TX8) (N := 14) (ci := 8) (q0 := 0) hP hE rfl rfl) rfl rfl hl.1 rfl (lv_room (Nat.le_of_ble_eq_true rfl)) dX8_readCloud_102 ⟨Nat.zero_le _, Nat.zero_le _⟩) hS (fun _ _ h => h) (fun _ h => h) (fun t locs hB hz hk hS => ?_)
                  have hP : va_P D vwC (mW cs w (G102)) t.heap := hB
                  refine lv_goto (tgt := 9) hx hb dX8_readCloud_105 (by decide) ?_
                  exact ih ((G24).1) (if (if (((G24).2).2) = true then (if ((G24).1) ≤ x1 then false else true) else false) = true then (if (sX8_here (msS (msG ((G24).2) (if (((G24).2).2) = true then (if ((G24).1) ≤ x1 then false else true) else false)) 6 ((((G24).2).1.1 6) ||| (if (if (((G24).2).2) = true then (if ((G24).1) ≤ x1 then false else true) else false) = true then 1 <<< (((G24).1) &&& 31) else (0 : Int32))))) = 44 then true else false) else false) (G102) (by first | exact rc_0 p1 c97 c17 hm | exact rc_1 (by rw [← hG102]; exact p1.tr (PR_take p1.1 (fun _ => q2))) (by rw [← hG102]; exact Int.lt_of_le_of_lt p1.2.1 q3) c17 hm) (by first | exact p1.1 | (rw [← hG102]; exact (PR_take p1.1 (fun _ => q2)).1)) hv _ _ hP hS ls (lv_sub hl [3, 1, 0] rfl)
              · refine lv_if_eq (tgt := 94) hx hb dX8_readCloud_78 (by decide) (fun c78 => ?_) (fun c78 => ?_)
                · have c78 := b2i_f c78
                  refine lv_iconst (v := 0) hx hb dX8_readCloud_94 (by decide) ?_
                  exact hJ _ (congrArg b2i ((if_neg c78).trans rfl))
                · have c78 := b2i_t c78
                  refine lv_aload_n hx hb dX8_readCloud_81 rfl (lv_at hl 2 rfl) ?_
                  refine ro_i (sX8_here (msS (msG ((G24).2) (if (((G24).2).2) = true then (if ((G24).1) ≤ x1 then false else true) else false)) 6 ((((G24).2).1.1 6) ||| (if (if (((G24).2).2) = true then (if ((G24).1) ≤ x1 then false else true) else false) = true then 1 <<< (((G24).1) &&& 31) else (0 : Int32))))) (run_c (va_runV (As := []) (rest := []) ⟨hx, hb, hml, hown, hts⟩ (c_X8_here l D cs w (msS (msG ((G24).2) (if (((G24).2).2) = true then (if ((G24).1) ≤ x1 then false else true) else false)) 6 ((((G24).2).1.1 6) ||| (if (if (((G24).2).2) = true then (if ((G24).1) ≤ x1 then false else true) else false) = true then 1 <<< (((G24).1) &&& 31) else (0 : Int32)))) (PR_s6 _ (PR_g _ p0.1).1).1) (cwV 0 hts (good_V w_ml_X8_116 w_im_X8_here w_se_X8_here w_in_X8 w_co_X8_here) rfl rfl rfl ⟨rfl, hd_X8_here⟩ ⟨Nat.le_of_ble_eq_true rfl, Nat.le_of_ble_eq_true rfl⟩) (pe_W (C := RX8) (T := TX8) (N := 14) (ci := 8) (q0 := 0) hP hE rfl rfl) rfl rfl hl.1 rfl (lv_room (Nat.le_of_ble_eq_true rfl)) dX8_readCloud_82 ⟨Nat.zero_le _, Nat.zero_le _⟩)) ?_
                  refine lv_bipush (v := 44) hx hb dX8_readCloud_85 (by decide) ?_
                  refine lv_icmp_ne (tgt := 94) hx hb dX8_readCloud_87 (by decide) (fun c87 => ?_) (fun c87 => ?_)
                  · refine lv_iconst (v := 0) hx hb dX8_readCloud_94 (by decide) ?_
                    exact hJ _ (congrArg b2i ((if_pos c78).trans ((if_neg c87).trans rfl)))
                  · refine lv_iconst (v := 1) hx hb dX8_readCloud_90 (by decide) ?_
                    refine lv_goto (tgt := 95) hx hb dX8_readCloud_91 (by decide) ?_
                    exact hJ _ (congrArg b2i ((if_pos c78).trans ((if_pos c87).trans rfl)))
            · refine lv_if_eq (tgt := 67) hx hb dX8_readCloud_58 (by decide) (fun c58 => ?_) (fun c58 => ?_)
              · have c58 := b2i_f c58
                refine lv_iconst (v := 0) hx hb dX8_readCloud_67 (by decide) ?_
                exact hJ _ ((if_neg c58).trans rfl)
              · have c58 := b2i_t c58
                refine lv_iconst (v := 1) hx hb dX8_readCloud_61 (by decide) ?_
                refine lv_iload_n hx hb dX8_readCloud_62 rfl (lv_at hl 0 rfl) ?_
                refine lv_ishl hx hb dX8_readCloud_63 ?_
                refine lv_goto (tgt := 68) hx hb dX8_readCloud_64 (by decide) ?_
                exact hJ _ ((if_pos c58).trans rfl)
          · refine lv_if_eq (tgt := 45) hx hb dX8_readCloud_33 (by decide) (fun c33 => ?_) (fun c33 => ?_)
            · have c33 := b2i_f c33
              refine lv_iconst (v := 0) hx hb dX8_readCloud_45 (by decide) ?_
              exact hJ _ (congrArg b2i ((if_neg c33).trans rfl))
            · have c33 := b2i_t c33
              refine lv_iload_n hx hb dX8_readCloud_36 rfl (lv_at hl 0 rfl) ?_
              refine lv_iload_n hx hb dX8_readCloud_37 rfl (lv_at hl 2 rfl) ?_
              refine lv_icmp_le (tgt := 45) hx hb dX8_readCloud_38 (by decide) (fun c38 => ?_) (fun c38 => ?_)
              · refine lv_iconst (v := 0) hx hb dX8_readCloud_45 (by decide) ?_
                exact hJ _ (congrArg b2i ((if_pos c33).trans ((if_pos c38).trans rfl)))
              · refine lv_iconst (v := 1) hx hb dX8_readCloud_41 (by decide) ?_
                refine lv_goto (tgt := 46) hx hb dX8_readCloud_42 (by decide) ?_
                exact hJ _ (congrArg b2i ((if_pos c33).trans ((if_neg c38).trans rfl)))
  exact LOOP _ (-1) true (msS M 6 0) (Nat.lt_succ_self _) ((PR_s6 0 hri).1) hv _ _ hP hS ls (lv_sub hl [2, 1, 0] rfl)
theorem PR_readCloud {M : MS} (h : RI M) : PR M (sX8_readCloud M) := by
  have h9 : ∀ n x1 x2 O9, RI O9 → rcM O9 x2 < n → PR O9 (LX8_readCloud_9 M n x1 x2 O9) := by
    intro n
    induction n with
    | zero => intro x1 x2 O9 _ hm; exact absurd hm (Nat.not_lt_zero _)
    | succ n ih =>
      intro x1 x2 O9 i0 hm
      rw [LX8_readCloud_9_eq]
      refine pr_if (fun _ => ?_) (fun _ => PR.rf i0)
      refine pr_if (fun c17 => ?_) (fun _ => PR.rf i0)
      have p0 : PR O9 (sX8_number O9 0 11).2 := PR_number i0 (by decide)
      have p1 : ∀ B v, PR O9 (msS (msG (sX8_number O9 0 11).2 B) 6 v) := fun B v => p0.tr ((PR_g B p0.1).tr (PR_s6 v (PR_g B p0.1).1))
      refine pr_if (fun c97 => ?_) (fun c97 => ?_)
      · have q1 := rb_t c97
        have q2 := here_l q1.2 (by decide)
        have q3 := tk_up (p1 _ _).1 q1.1 q2
        have p2 := PR_take (b := true) (p1 _ _).1 (fun _ => q2)
        have p3 := (p1 _ _).tr p2
        refine p3.tr (ih _ _ _ p3.1 ?_)
        exact rc_1 p3 (Int.lt_of_le_of_lt (p1 _ _).2.1 q3) c17 hm
      · refine (p1 _ _).tr (ih _ _ _ (p1 _ _).1 ?_)
        exact rc_0 (p1 _ _) c97 c17 hm
  unfold sX8_readCloud
  refine (PR_s6 0 h).tr (h9 _ _ _ _ (PR_s6 0 h).1 ?_)
  exact Nat.lt_succ_self _
theorem hd_X8_readDraw : yX8_readDraw.cls ≠ "java/lang/invoke/MethodHandle" ∧ yX8_readDraw.cls ≠ "java/lang/invoke/VarHandle" ∧ (parseMethodDescriptor yX8_readDraw.desc).map (fun d => d.parameters.length) = some 0 := by decide +kernel
def CX8_readDraw_106 (M : MS) (x1 : Int32) (O9 : MS) : MS := (if (((sX8_goes (((sX8_end O9)).2) (if (((sX8_end O9)).1) = true then (if x1 = (-1) then (if (sX8_canDraw ((((sX8_end O9)).2).1.2 3)) = true then true else false) else (if (sX8_hasSheet ((((sX8_end O9)).2).1.2 3) x1) = true then (if (sX8_canDraw ((((sX8_end O9)).2).1.2 3)) = true then true else false) else false)) else false))).1) = true then (msA (((sX8_goes (((sX8_end O9)).2) (if (((sX8_end O9)).1) = true then (if x1 = (-1) then (if (sX8_canDraw ((((sX8_end O9)).2).1.2 3)) = true then true else false) else (if (sX8_hasSheet ((((sX8_end O9)).2).1.2 3) x1) = true then (if (sX8_canDraw ((((sX8_end O9)).2).1.2 3)) = true then true else false) else false)) else false))).2) 3 (((sX8_goDraw ((((sX8_goes (((sX8_end O9)).2) (if (((sX8_end O9)).1) = true then (if x1 = (-1) then (if (sX8_canDraw ((((sX8_end O9)).2).1.2 3)) = true then true else false) else (if (sX8_hasSheet ((((sX8_end O9)).2).1.2 3) x1) = true then (if (sX8_canDraw ((((sX8_end O9)).2).1.2 3)) = true then true else false) else false)) else false))).2).1.2 3) x1)).2)) else (((sX8_goes (((sX8_end O9)).2) (if (((sX8_end O9)).1) = true then (if x1 = (-1) then (if (sX8_canDraw ((((sX8_end O9)).2).1.2 3)) = true then true else false) else (if (sX8_hasSheet ((((sX8_end O9)).2).1.2 3) x1) = true then (if (sX8_canDraw ((((sX8_end O9)).2).1.2 3)) = true then true else false) else false)) else false))).2))
def CX8_readDraw_72 (M : MS) (O9 : MS) : MS := (if O9.2 = true then (if (sX8_in ((sX8_here O9).toInt64) (48 : Int64) (57 : Int64)) = true then (CX8_readDraw_106 M (((sX8_digit O9 0 9)).1) (((sX8_digit O9 0 9)).2)) else (CX8_readDraw_106 M (-1) O9)) else (CX8_readDraw_106 M (-1) O9))
def CX8_readDraw_54 (M : MS) (O9 : MS) : MS := (CX8_readDraw_72 M ((sX8_take O9 (if (sX8_here O9) = 119 then true else false))))
def CX8_readDraw_36 (M : MS) (O9 : MS) : MS := (CX8_readDraw_54 M ((sX8_take O9 (if (sX8_here O9) = 97 then true else false))))
def CX8_readDraw_18 (M : MS) (O9 : MS) : MS := (CX8_readDraw_36 M ((sX8_take O9 (if (sX8_here O9) = 114 then true else false))))
def sX8_readDraw (M : MS) : MS := (CX8_readDraw_18 M ((sX8_take M (if (sX8_here M) = 100 then true else false))))
set_option maxHeartbeats 4000000 in
set_option maxRecDepth 100000 in
theorem c_X8_readDraw (l : Launch) (D : va_G) (cs : Nat → ClassId) (w : Nat → Nat) (M : MS) (hd : mD w) (hri : RI M) : Met l yX8_readDraw (wc yX8_readDraw cX8_readDraw 2 none) ({ frames := 2, cells := 0, slots := 0, locals := 48 } : Room) (va_Pc [.ref (w 0)] (PE D cs (mW cs w M))) (va_Qv (fun u : MS => u = (sX8_readDraw M)) (fun u t => va_P D vwC (mW cs w u) t.heap) (mA w)) 0 0 (mA w) := by
  obtain ⟨v, hv⟩ : ∃ v, sX8_readDraw M = v := ⟨_, rfl⟩
  rw [hv]
  refine met_o (lv := [(0, .ref (w 0))]) (by decide) (Nat.le_of_ble_eq_true rfl) rfl ?_
  intro p e s m args below meth c ls hx hb hr hml hts hown hlocks hin hP hE hl
  have hown : s.vm.findClass RX8 = some m.cls := hown
  have hK := hE.1
  have hP : va_P D vwC (mW cs w M) s.heap := hP
  have hS : va_S (mA w) s.heap s.heap [] := va_S.rf
  unfold sX8_readDraw at hv
  refine lv_aload_n hx hb dX8_readDraw_0 rfl (lv_at hl 0 rfl) ?_
  refine lv_aload_n hx hb dX8_readDraw_1 rfl (lv_at hl 0 rfl) ?_
  refine ro_i (sX8_here M) (run_c (va_runV (As := []) (rest := [.ref (w 0)]) ⟨hx, hb, hml, hown, hts⟩ (c_X8_here l D cs w M hri) (cwV 0 hts (good_V w_ml_X8_116 w_im_X8_here w_se_X8_here w_in_X8 w_co_X8_here) rfl rfl rfl ⟨rfl, hd_X8_here⟩ ⟨Nat.le_of_ble_eq_true rfl, Nat.le_of_ble_eq_true rfl⟩) (pe_W (C := RX8) (T := TX8) (N := 14) (ci := 8) (q0 := 0) hP hE rfl rfl) rfl rfl hl.1 rfl (lv_room (Nat.le_of_ble_eq_true rfl)) dX8_readDraw_2 ⟨Nat.zero_le _, Nat.zero_le _⟩)) ?_
  refine lv_bipush (v := 100) hx hb dX8_readDraw_5 (by decide) ?_
  refine join_i (J := 15) (ls := ls) (rest := [.ref (w 0)]) (b2i (if (sX8_here M) = 100 then true else false)) ?_ (fun hJ => ?_)
  · obtain ⟨G15, hG15⟩ : ∃ G, sX8_take M (if (sX8_here M) = 100 then true else false) = G := ⟨_, rfl⟩
    have k15 := (c_X8_take l D cs w M (if (sX8_here M) = 100 then true else false) hd)
    rw [hG15] at k15
    rw [hG15] at hv
    refine w_v (G15) (va_runV (As := [.int (b2i (if (sX8_here M) = 100 then true else false))]) (rest := []) ⟨hx, hb, hml, hown, hts⟩ k15 (cwV 1 hts (good_V w_ml_X8_120 w_im_X8_take w_se_X8_take w_in_X8 w_co_X8_take) rfl rfl rfl ⟨rfl, hd_X8_take⟩ ⟨Nat.le_of_ble_eq_true rfl, Nat.le_of_ble_eq_true rfl⟩) (pe_W (C := RX8) (T := TX8) (N := 14) (ci := 8) (q0 := 0) hP hE rfl rfl) rfl rfl hl.1 rfl (lv_room (Nat.le_of_ble_eq_true rfl)) dX8_readDraw_15 ⟨Nat.zero_le _, Nat.zero_le _⟩) hS (fun _ _ h => h) (fun _ h => h) (fun t locs hB hz hk hS => ?_)
    have hP : va_P D vwC (mW cs w (G15)) t.heap := hB
    have CUT : ∀ (O9 : MS), (RI O9) → CX8_readDraw_18 M O9 = v → ∀ (H : Heap) (locs : List Loc), va_P D vwC (mW cs w O9) H → va_S (mA w) s.heap H locs → ∀ ls : Array Slot, lv_has ls 2 [(0, .ref (w 0))] → W p l e ({ frames := 2, cells := 0, slots := 0, locals := 48 } : Room) s m args below meth c H locs 0 0 (MQ below (va_Qv (fun u : MS => u = v) (fun u t => va_P D vwC (mW cs w u) t.heap) (mA w)) args s 0 0 (mA w)) (F0 m 18 ls []) := by
      clear hv
      intro O9 i0 hv H locs hP hS ls hl
      unfold CX8_readDraw_18 at hv
      refine lv_aload_n hx hb dX8_readDraw_18 rfl (lv_at hl 0 rfl) ?_
      refine lv_aload_n hx hb dX8_readDraw_19 rfl (lv_at hl 0 rfl) ?_
      refine ro_i (sX8_here O9) (run_c (va_runV (As := []) (rest := [.ref (w 0)]) ⟨hx, hb, hml, hown, hts⟩ (c_X8_here l D cs w O9 i0) (cwV 0 hts (good_V w_ml_X8_116 w_im_X8_here w_se_X8_here w_in_X8 w_co_X8_here) rfl rfl rfl ⟨rfl, hd_X8_here⟩ ⟨Nat.le_of_ble_eq_true rfl, Nat.le_of_ble_eq_true rfl⟩) (pe_W (C := RX8) (T := TX8) (N := 14) (ci := 8) (q0 := 0) hP hE rfl rfl) rfl rfl hl.1 rfl (lv_room (Nat.le_of_ble_eq_true rfl)) dX8_readDraw_20 ⟨Nat.zero_le _, Nat.zero_le _⟩)) ?_
      refine lv_bipush (v := 114) hx hb dX8_readDraw_23 (by decide) ?_
      refine join_i (J := 33) (ls := ls) (rest := [.ref (w 0)]) (b2i (if (sX8_here O9) = 114 then true else false)) ?_ (fun hJ => ?_)
      · obtain ⟨G33, hG33⟩ : ∃ G, sX8_take O9 (if (sX8_here O9) = 114 then true else false) = G := ⟨_, rfl⟩
        have k33 := (c_X8_take l D cs w O9 (if (sX8_here O9) = 114 then true else false) hd)
        rw [hG33] at k33
        rw [hG33] at hv
        refine w_v (G33) (va_runV (As := [.int (b2i (if (sX8_here O9) = 114 then true else false))]) (rest := []) ⟨hx, hb, hml, hown, hts⟩ k33 (cwV 1 hts (good_V w_ml_X8_120 w_im_X8_take w_se_X8_take w_in_X8 w_co_X8_take) rfl rfl rfl ⟨rfl, hd_X8_take⟩ ⟨Nat.le_of_ble_eq_true rfl, Nat.le_of_ble_eq_true rfl⟩) (pe_W (C := RX8) (T := TX8) (N := 14) (ci := 8) (q0 := 0) hP hE rfl rfl) rfl rfl hl.1 rfl (lv_room (Nat.le_of_ble_eq_true rfl)) dX8_readDraw_33 ⟨Nat.zero_le _, Nat.zero_le _⟩) hS (fun _ _ h => h) (fun _ h => h) (fun t locs hB hz hk hS => ?_)
        have hP : va_P D vwC (mW cs w (G33)) t.heap := hB
        have CUT : ∀ (O9 : MS), (RI O9) → CX8_readDraw_36 M O9 = v → ∀ (H : Heap) (locs : List Loc), va_P D vwC (mW cs w O9) H → va_S (mA w) s.heap H locs → ∀ ls : Array Slot, lv_has ls 2 [(0, .ref (w 0))] → W p l e ({ frames := 2, cells := 0, slots := 0, locals := 48 } : Room) s m args below meth c H locs 0 0 (MQ below (va_Qv (fun u : MS => u = v) (fun u t => va_P D vwC (mW cs w u) t.heap) (mA w)) args s 0 0 (mA w)) (F0 m 36 ls []) := by
          clear hv
          intro O9 i0 hv H locs hP hS ls hl
          unfold CX8_readDraw_36 at hv
          refine lv_aload_n hx hb dX8_readDraw_36 rfl (lv_at hl 0 rfl) ?_
          refine lv_aload_n hx hb dX8_readDraw_37 rfl (lv_at hl 0 rfl) ?_
          refine ro_i (sX8_here O9) (run_c (va_runV (As := []) (rest := [.ref (w 0)]) ⟨hx, hb, hml, hown, hts⟩ (c_X8_here l D cs w O9 i0) (cwV 0 hts (good_V w_ml_X8_116 w_im_X8_here w_se_X8_here w_in_X8 w_co_X8_here) rfl rfl rfl ⟨rfl, hd_X8_here⟩ ⟨Nat.le_of_ble_eq_true rfl, Nat.le_of_ble_eq_true rfl⟩) (pe_W (C := RX8) (T := TX8) (N := 14) (ci := 8) (q0 := 0) hP hE rfl rfl) rfl rfl hl.1 rfl (lv_room (Nat.le_of_ble_eq_true rfl)) dX8_readDraw_38 ⟨Nat.zero_le _, Nat.zero_le _⟩)) ?_
          refine lv_bipush (v := 97) hx hb dX8_readDraw_41 (by decide) ?_
          refine join_i (J := 51) (ls := ls) (rest := [.ref (w 0)]) (b2i (if (sX8_here O9) = 97 then true else false)) ?_ (fun hJ => ?_)
          · obtain ⟨G51, hG51⟩ : ∃ G, sX8_take O9 (if (sX8_here O9) = 97 then true else false) = G := ⟨_, rfl⟩
            have k51 := (c_X8_take l D cs w O9 (if (sX8_here O9) = 97 then true else false) hd)
            rw [hG51] at k51
            rw [hG51] at hv
            refine w_v (G51) (va_runV (As := [.int (b2i (if (sX8_here O9) = 97 then true else false))]) (rest := []) ⟨hx, hb, hml, hown, hts⟩ k51 (cwV 1 hts (good_V w_ml_X8_120 w_im_X8_take w_se_X8_take w_in_X8 w_co_X8_take) rfl rfl rfl ⟨rfl, hd_X8_take⟩ ⟨Nat.le_of_ble_eq_true rfl, Nat.le_of_ble_eq_true rfl⟩) (pe_W (C := RX8) (T := TX8) (N := 14) (ci := 8) (q0 := 0) hP hE rfl rfl) rfl rfl hl.1 rfl (lv_room (Nat.le_of_ble_eq_true rfl)) dX8_readDraw_51 ⟨Nat.zero_le _, Nat.zero_le _⟩) hS (fun _ _ h => h) (fun _ h => h) (fun t locs hB hz hk hS => ?_)
            have hP : va_P D vwC (mW cs w (G51)) t.heap := hB
            have CUT : ∀ (O9 : MS), (RI O9) → CX8_readDraw_54 M O9 = v → ∀ (H : Heap) (locs : List Loc), va_P D vwC (mW cs w O9) H → va_S (mA w) s.heap H locs → ∀ ls : Array Slot, lv_has ls 2 [(0, .ref (w 0))] → W p l e ({ frames := 2, cells := 0, slots := 0, locals := 48 } : Room) s m args below meth c H locs 0 0 (MQ below (va_Qv (fun u : MS => u = v) (fun u t => va_P D vwC (mW cs w u) t.heap) (mA w)) args s 0 0 (mA w)) (F0 m 54 ls []) := by
              clear hv
              intro O9 i0 hv H locs hP hS ls hl
              unfold CX8_readDraw_54 at hv
              refine lv_aload_n hx hb dX8_readDraw_54 rfl (lv_at hl 0 rfl) ?_
              refine lv_aload_n hx hb dX8_readDraw_55 rfl (lv_at hl 0 rfl) ?_
              refine ro_i (sX8_here O9) (run_c (va_runV (As := []) (rest := [.ref (w 0)]) ⟨hx, hb, hml, hown, hts⟩ (c_X8_here l D cs w O9 i0) (cwV 0 hts (good_V w_ml_X8_116 w_im_X8_here w_se_X8_here w_in_X8 w_co_X8_here) rfl rfl rfl ⟨rfl, hd_X8_here⟩ ⟨Nat.le_of_ble_eq_true rfl, Nat.le_of_ble_eq_true rfl⟩) (pe_W (C := RX8) (T := TX8) (N := 14) (ci := 8) (q0 := 0) hP hE rfl rfl) rfl rfl hl.1 rfl (lv_room (Nat.le_of_ble_eq_true rfl)) dX8_readDraw_56 ⟨Nat.zero_le _, Nat.zero_le _⟩)) ?_
              refine lv_bipush (v := 119) hx hb dX8_readDraw_59 (by decide) ?_
              refine join_i (J := 69) (ls := ls) (rest := [.ref (w 0)]) (b2i (if (sX8_here O9) = 119 then true else false)) ?_ (fun hJ => ?_)
              · obtain ⟨G69, hG69⟩ : ∃ G, sX8_take O9 (if (sX8_here O9) = 119 then true else false) = G := ⟨_, rfl⟩
                have k69 := (c_X8_take l D cs w O9 (if (sX8_here O9) = 119 then true else false) hd)
                rw [hG69] at k69
                rw [hG69] at hv
                refine w_v (G69) (va_runV (As := [.int (b2i (if (sX8_here O9) = 119 then true else false))]) (rest := []) ⟨hx, hb, hml, hown, hts⟩ k69 (cwV 1 hts (good_V w_ml_X8_120 w_im_X8_take w_se_X8_take w_in_X8 w_co_X8_take) rfl rfl rfl ⟨rfl, hd_X8_take⟩ ⟨Nat.le_of_ble_eq_true rfl, Nat.le_of_ble_eq_true rfl⟩) (pe_W (C := RX8) (T := TX8) (N := 14) (ci := 8) (q0 := 0) hP hE rfl rfl) rfl rfl hl.1 rfl (lv_room (Nat.le_of_ble_eq_true rfl)) dX8_readDraw_69 ⟨Nat.zero_le _, Nat.zero_le _⟩) hS (fun _ _ h => h) (fun _ h => h) (fun t locs hB hz hk hS => ?_)
                have hP : va_P D vwC (mW cs w (G69)) t.heap := hB
                have CUT : ∀ (O9 : MS), (RI O9) → CX8_readDraw_72 M O9 = v → ∀ (H : Heap) (locs : List Loc), va_P D vwC (mW cs w O9) H → va_S (mA w) s.heap H locs → ∀ ls : Array Slot, lv_has ls 2 [(0, .ref (w 0))] → W p l e ({ frames := 2, cells := 0, slots := 0, locals := 48 } : Room) s m args below meth c H locs 0 0 (MQ below (va_Qv (fun u : MS => u = v) (fun u t => va_P D vwC (mW cs w u) t.heap) (mA w)) args s 0 0 (mA w)) (F0 m 72 ls []) := by
                  clear hv
                  intro O9 i0 hv H locs hP hS ls hl
                  unfold CX8_readDraw_72 at hv
                  refine lv_iconst (v := (-1)) hx hb dX8_readDraw_72 (by decide) ?_
                  refine lv_istore_n (lv' := [(1, .int (-1)), (0, .ref (w 0))]) hx hb dX8_readDraw_73 rfl hl (by decide) rfl (fun ls hl => ?_)
                  refine lv_aload_n hx hb dX8_readDraw_74 rfl (lv_at hl 1 rfl) ?_
                  refine va_get (D := D) (ci := 8) (v := .int (b2i O9.2)) (C := RX8) (T := TX8) (N := 14) hx hb hts iw_X8 hown hK hP 0 rfl rfl 11 (by decide) (hts _ w_fl_X8_112) (fun _ h9 => h9) rfl dX8_readDraw_75 ?_
                  refine lv_if_eq (tgt := 106) hx hb dX8_readDraw_78 (by decide) (fun c78 => ?_) (fun c78 => ?_)
                  · have c78 := b2i_f c78
                    have hv := (if_neg c78).symm.trans hv
                    have CUT : ∀ (x1 : Int32) (O9 : MS), (RI O9) → CX8_readDraw_106 M x1 O9 = v → ∀ (H : Heap) (locs : List Loc), va_P D vwC (mW cs w O9) H → va_S (mA w) s.heap H locs → ∀ ls : Array Slot, lv_has ls 2 [(0, .ref (w 0)), (1, .int x1)] → W p l e ({ frames := 2, cells := 0, slots := 0, locals := 48 } : Room) s m args below meth c H locs 0 0 (MQ below (va_Qv (fun u : MS => u = v) (fun u t => va_P D vwC (mW cs w u) t.heap) (mA w)) args s 0 0 (mA w)) (F0 m 106 ls []) := by
                      clear hv
                      intro x1 O9 i0 hv H locs hP hS ls hl
                      unfold CX8_readDraw_106 at hv
                      refine lv_aload_n hx hb dX8_readDraw_106 rfl (lv_at hl 0 rfl) ?_
                      refine lv_aload_n hx hb dX8_readDraw_107 rfl (lv_at hl 0 rfl) ?_
                      obtain ⟨G108, hG108⟩ : ∃ G, sX8_end O9 = G := ⟨_, rfl⟩
                      have k108 := (c_X8_end l D cs w O9 hd i0)
                      rw [hG108] at k108
                      rw [hG108] at hv
                      refine w_b (G108) (va_runV (As := []) (rest := [.ref (w 0)]) ⟨hx, hb, hml, hown, hts⟩ k108 (cwV 0 hts (good_V w_ml_X8_135 w_im_X8_end w_se_X8_end w_in_X8 w_co_X8_end) rfl rfl rfl ⟨rfl, hd_X8_end⟩ ⟨Nat.le_of_ble_eq_true rfl, Nat.le_of_ble_eq_true rfl⟩) (pe_W (C := RX8) (T := TX8) (N := 14) (ci := 8) (q0 := 0) hP hE rfl rfl) rfl rfl hl.1 rfl (lv_room (Nat.le_of_ble_eq_true rfl)) dX8_readDraw_108 ⟨Nat.zero_le _, Nat.zero_le _⟩) hS (fun _ _ h => h) (fun _ h => h) (fun t locs hB hz hk hS => ?_)
                      have hP : va_P D vwC (mW cs w ((G108).2)) t.heap := hB
                      have g1 : RI G108.2 := by rw [← hG108]; exact (PR_end i0).1
                      refine join_i (J := 145) (ls := ls) (rest := [.ref (w 0)]) (b2i (if ((G108).1) = true then (if x1 = (-1) then (if (sX8_canDraw (((G108).2).1.2 3)) = true then true else false) else (if (sX8_hasSheet (((G108).2).1.2 3) x1) = true then (if (sX8_canDraw (((G108).2).1.2 3)) = true then true else false) else false)) else false)) ?_ (fun hJ => ?_)
                      · obtain ⟨G145, hG145⟩ : ∃ G, sX8_goes ((G108).2) (if ((G108).1) = true then (if x1 = (-1) then (if (sX8_canDraw (((G108).2).1.2 3)) = true then true else false) else (if (sX8_hasSheet (((G108).2).1.2 3) x1) = true then (if (sX8_canDraw (((G108).2).1.2 3)) = true then true else false) else false)) else false) = G := ⟨_, rfl⟩
                        have k145 := (c_X8_goes l D cs w ((G108).2) (if ((G108).1) = true then (if x1 = (-1) then (if (sX8_canDraw (((G108).2).1.2 3)) = true then true else false) else (if (sX8_hasSheet (((G108).2).1.2 3) x1) = true then (if (sX8_canDraw (((G108).2).1.2 3)) = true then true else false) else false)) else false) hd)
                        rw [hG145] at k145
                        rw [hG145] at hv
                        refine w_b (G145) (va_runV (As := [.int (b2i (if ((G108).1) = true then (if x1 = (-1) then (if (sX8_canDraw (((G108).2).1.2 3)) = true then true else false) else (if (sX8_hasSheet (((G108).2).1.2 3) x1) = true then (if (sX8_canDraw (((G108).2).1.2 3)) = true then true else false) else false)) else false))]) (rest := []) ⟨hx, hb, hml, hown, hts⟩ k145 (cwV 1 hts (good_V w_ml_X8_146 w_im_X8_goes w_se_X8_goes w_in_X8 w_co_X8_goes) rfl rfl rfl ⟨rfl, hd_X8_goes⟩ ⟨Nat.le_of_ble_eq_true rfl, Nat.le_of_ble_eq_true rfl⟩) (pe_W (C := RX8) (T := TX8) (N := 14) (ci := 8) (q0 := 0) hP hE rfl rfl) rfl rfl hl.1 rfl (lv_room (Nat.le_of_ble_eq_true rfl)) dX8_readDraw_145 ⟨Nat.zero_le _, Nat.zero_le _⟩) hS (fun _ _ h => h) (fun _ h => h) (fun t locs hB hz hk hS => ?_)
                        have hP : va_P D vwC (mW cs w ((G145).2)) t.heap := hB
                        refine lv_if_eq (tgt := 160) hx hb dX8_readDraw_148 (by decide) (fun c148 => ?_) (fun c148 => ?_)
                        · have c148 := b2i_f c148
                          have hv := (if_neg c148).symm.trans hv
                          exact W.vret hx hb hr (fun t ht hW => ⟨⟨((G145).2), rfl, hv, pw ht hP⟩, hS.F ht⟩) hS.2.2 dX8_readDraw_160 (hlocks := hlocks)
                        · have c148 := b2i_t c148
                          have hv := (if_pos c148).symm.trans hv
                          have f1 := goes_t hG145 c148
                          have f2 := rd_t f1
                          refine lv_aload_n hx hb dX8_readDraw_151 rfl (lv_at hl 0 rfl) ?_
                          refine va_get (D := D) (ci := 8) (v := .ref (w 3)) (C := RX8) (T := TX8) (N := 14) hx hb hts iw_X8 hown hK hP 0 rfl rfl 3 (by decide) (hts _ w_fl_X8_16) (fun _ h9 => h9) rfl dX8_readDraw_152 ?_
                          refine lv_iload_n hx hb dX8_readDraw_155 rfl (lv_at hl 1 rfl) ?_
                          obtain ⟨G156, hG156⟩ : ∃ G, sX8_goDraw (((G145).2).1.2 3) x1 = G := ⟨_, rfl⟩
                          have k156 := (c_X8_goDraw l D cs (w 3) (((G145).2).1.2 3) x1 (by rw [goes_r hG145]; exact cd_in g1.2 f2.2))
                          rw [hG156] at k156
                          rw [hG156] at hv
                          refine w_i (G156) (va_runS (As := [.ref (w 3), .int x1]) (rest := []) ⟨hx, hb, hml, hown, hts⟩ k156 (cwS 2 hts (good_S w_ml_X8_150 w_st_X8_goDraw w_in_X8 w_co_X8_goDraw) rfl rfl rfl ⟨rfl, hd_X8_goDraw⟩ ⟨Nat.le_of_ble_eq_true rfl, Nat.le_of_ble_eq_true rfl⟩) (pe_S (hP.sub (ws' := rowW cs (w 3) (((G145).2).1.2 3)) [3] rfl) hE) rfl rfl hl.1 rfl (lv_room (Nat.le_of_ble_eq_true rfl)) dX8_readDraw_156 ⟨Nat.zero_le _, Nat.zero_le _⟩) hS (fun _ _ h => ⟨3, by decide, h⟩) (fun _ h => ⟨3, by decide, h⟩) (fun t locs hB hz hk hS => ?_)
                          have hP : va_P D vwC (mW cs w (msA ((G145).2) 3 ((G156).2))) t.heap := m_up3 hd hP hk hB
                          refine lv_pop hx hb dX8_readDraw_159 rfl ?_
                          exact W.vret hx hb hr (fun t ht hW => ⟨⟨(msA ((G145).2) 3 ((G156).2)), rfl, hv, pw ht hP⟩, hS.F ht⟩) hS.2.2 dX8_readDraw_160 (hlocks := hlocks)
                      · refine lv_if_eq (tgt := 144) hx hb dX8_readDraw_111 (by decide) (fun c111 => ?_) (fun c111 => ?_)
                        · have c111 := b2i_f c111
                          refine lv_iconst (v := 0) hx hb dX8_readDraw_144 (by decide) ?_
                          exact hJ _ (congrArg b2i ((if_neg c111).trans rfl))
                        · have c111 := b2i_t c111
                          refine lv_iload_n hx hb dX8_readDraw_114 rfl (lv_at hl 1 rfl) ?_
                          refine lv_iconst (v := (-1)) hx hb dX8_readDraw_115 (by decide) ?_
                          refine lv_icmp_eq (tgt := 130) hx hb dX8_readDraw_116 (by decide) (fun c116 => ?_) (fun c116 => ?_)
                          · refine lv_aload_n hx hb dX8_readDraw_130 rfl (lv_at hl 0 rfl) ?_
                            refine va_get (D := D) (ci := 8) (v := .ref (w 3)) (C := RX8) (T := TX8) (N := 14) hx hb hts iw_X8 hown hK hP 0 rfl rfl 3 (by decide) (hts _ w_fl_X8_16) (fun _ h9 => h9) rfl dX8_readDraw_131 ?_
                            refine ro_i (b2i (sX8_canDraw (((G108).2).1.2 3))) (run_c (va_runS (As := [.ref (w 3)]) (rest := [.ref (w 0)]) ⟨hx, hb, hml, hown, hts⟩ (c_X8_canDraw l D cs (w 3) (((G108).2).1.2 3)) (cwS 1 hts (good_S w_ml_X8_142 w_st_X8_canDraw w_in_X8 w_co_X8_canDraw) rfl rfl rfl ⟨rfl, hd_X8_canDraw⟩ ⟨Nat.le_of_ble_eq_true rfl, Nat.le_of_ble_eq_true rfl⟩) (pe_S (hP.sub (ws' := rowW cs (w 3) (((G108).2).1.2 3)) [3] rfl) hE) rfl rfl hl.1 rfl (lv_room (Nat.le_of_ble_eq_true rfl)) dX8_readDraw_134 ⟨Nat.zero_le _, Nat.zero_le _⟩)) ?_
                            refine lv_if_eq (tgt := 144) hx hb dX8_readDraw_137 (by decide) (fun c137 => ?_) (fun c137 => ?_)
                            · have c137 := b2i_f c137
                              refine lv_iconst (v := 0) hx hb dX8_readDraw_144 (by decide) ?_
                              exact hJ _ (congrArg b2i ((if_pos c111).trans ((if_pos c116).trans ((if_neg c137).trans rfl))))
                            · have c137 := b2i_t c137
                              refine lv_iconst (v := 1) hx hb dX8_readDraw_140 (by decide) ?_
                              refine lv_goto (tgt := 145) hx hb dX8_readDraw_141 (by decide) ?_
                              exact hJ _ (congrArg b2i ((if_pos c111).trans ((if_pos c116).trans ((if_pos c137).trans rfl))))
                          · refine lv_aload_n hx hb dX8_readDraw_119 rfl (lv_at hl 0 rfl) ?_
                            refine va_get (D := D) (ci := 8) (v := .ref (w 3)) (C := RX8) (T := TX8) (N := 14) hx hb hts iw_X8 hown hK hP 0 rfl rfl 3 (by decide) (hts _ w_fl_X8_16) (fun _ h9 => h9) rfl dX8_readDraw_120 ?_
                            refine lv_iload_n hx hb dX8_readDraw_123 rfl (lv_at hl 1 rfl) ?_
                            refine ro_i (b2i (sX8_hasSheet (((G108).2).1.2 3) x1)) (run_c (va_runS (As := [.ref (w 3), .int x1]) (rest := [.ref (w 0)]) ⟨hx, hb, hml, hown, hts⟩ (c_X8_hasSheet l D cs (w 3) (((G108).2).1.2 3) x1) (cwS 2 hts (good_S w_ml_X8_139 w_st_X8_hasSheet w_in_X8 w_co_X8_hasSheet) rfl rfl rfl ⟨rfl, hd_X8_hasSheet⟩ ⟨Nat.le_of_ble_eq_true rfl, Nat.le_of_ble_eq_true rfl⟩) (pe_S (hP.sub (ws' := rowW cs (w 3) (((G108).2).1.2 3)) [3] rfl) hE) rfl rfl hl.1 rfl (lv_room (Nat.le_of_ble_eq_true rfl)) dX8_readDraw_124 ⟨Nat.zero_le _, Nat.zero_le _⟩)) ?_
                            refine lv_if_eq (tgt := 144) hx hb dX8_readDraw_127 (by decide) (fun c127 => ?_) (fun c127 => ?_)
                            · have c127 := b2i_f c127
                              refine lv_iconst (v := 0) hx hb dX8_readDraw_144 (by decide) ?_
                              exact hJ _ (congrArg b2i ((if_pos c111).trans ((if_neg c116).trans ((if_neg c127).trans rfl))))
                            · have c127 := b2i_t c127
                              refine lv_aload_n hx hb dX8_readDraw_130 rfl (lv_at hl 0 rfl) ?_
                              refine va_get (D := D) (ci := 8) (v := .ref (w 3)) (C := RX8) (T := TX8) (N := 14) hx hb hts iw_X8 hown hK hP 0 rfl rfl 3 (by decide) (hts _ w_fl_X8_16) (fun _ h9 => h9) rfl dX8_readDraw_131 ?_
                              refine ro_i (b2i (sX8_canDraw (((G108).2).1.2 3))) (run_c (va_runS (As := [.ref (w 3)]) (rest := [.ref (w 0)]) ⟨hx, hb, hml, hown, hts⟩ (c_X8_canDraw l D cs (w 3) (((G108).2).1.2 3)) (cwS 1 hts (good_S w_ml_X8_142 w_st_X8_canDraw w_in_X8 w_co_X8_canDraw) rfl rfl rfl ⟨rfl, hd_X8_canDraw⟩ ⟨Nat.le_of_ble_eq_true rfl, Nat.le_of_ble_eq_true rfl⟩) (pe_S (hP.sub (ws' := rowW cs (w 3) (((G108).2).1.2 3)) [3] rfl) hE) rfl rfl hl.1 rfl (lv_room (Nat.le_of_ble_eq_true rfl)) dX8_readDraw_134 ⟨Nat.zero_le _, Nat.zero_le _⟩)) ?_
                              refine lv_if_eq (tgt := 144) hx hb dX8_readDraw_137 (by decide) (fun c137 => ?_) (fun c137 => ?_)
                              · have c137 := b2i_f c137
                                refine lv_iconst (v := 0) hx hb dX8_readDraw_144 (by decide) ?_
                                exact hJ _ (congrArg b2i ((if_pos c111).trans ((if_neg c116).trans ((if_pos c127).trans ((if_neg c137).trans rfl)))))
                              · have c137 := b2i_t c137
                                refine lv_iconst (v := 1) hx hb dX8_readDraw_140 (by decide) ?_
                                refine lv_goto (tgt := 145) hx hb dX8_readDraw_141 (by decide) ?_
                                exact hJ _ (congrArg b2i ((if_pos c111).trans ((if_neg c116).trans ((if_pos c127).trans ((if_pos c137).trans rfl)))))
                    exact CUT (-1) O9 (by first | exact i0 | (rw [← hG102]; exact (PR_digit i0 (by decide)).1)) hv _ _ hP hS ls (lv_sub hl [1, 0] rfl)
                  · have c78 := b2i_t c78
                    have hv := (if_pos c78).symm.trans hv
                    refine lv_aload_n hx hb dX8_readDraw_81 rfl (lv_at hl 1 rfl) ?_
                    refine ro_i (sX8_here O9) (run_c (va_runV (As := []) (rest := []) ⟨hx, hb, hml, hown, hts⟩ (c_X8_here l D cs w O9 i0) (cwV 0 hts (good_V w_ml_X8_116 w_im_X8_here w_se_X8_here w_in_X8 w_co_X8_here) rfl rfl rfl ⟨rfl, hd_X8_here⟩ ⟨Nat.le_of_ble_eq_true rfl, Nat.le_of_ble_eq_true rfl⟩) (pe_W (C := RX8) (T := TX8) (N := 14) (ci := 8) (q0 := 0) hP hE rfl rfl) rfl rfl hl.1 rfl (lv_room (Nat.le_of_ble_eq_true rfl)) dX8_readDraw_82 ⟨Nat.zero_le _, Nat.zero_le _⟩)) ?_
                    refine lv_i2l hx hb dX8_readDraw_85 rfl ?_
                    refine lv_ldc2 (v := 48) hx hb hown (hts _ w_cn_X8_128) dX8_readDraw_86 ?_
                    refine lv_ldc2 (v := 57) hx hb hown (hts _ w_cn_X8_130) dX8_readDraw_89 ?_
                    refine ro_i (b2i (sX8_in ((sX8_here O9).toInt64) (48 : Int64) (57 : Int64))) (run_c (va_runS (As := [.long ((sX8_here O9).toInt64), .long (48 : Int64), .long (57 : Int64)]) (rest := []) ⟨hx, hb, hml, hown, hts⟩ (c_X8_in l D cs ((sX8_here O9).toInt64) (48 : Int64) (57 : Int64)) (cwS 3 hts (good_S w_ml_X8_42 w_st_X8_in w_in_X8 w_co_X8_in) rfl rfl rfl ⟨rfl, hd_X8_in⟩ ⟨Nat.le_of_ble_eq_true rfl, Nat.le_of_ble_eq_true rfl⟩) (pe_S (p_nil D _) hE) rfl rfl hl.1 rfl (lv_room (Nat.le_of_ble_eq_true rfl)) dX8_readDraw_92 ⟨Nat.zero_le _, Nat.zero_le _⟩)) ?_
                    refine lv_if_eq (tgt := 106) hx hb dX8_readDraw_95 (by decide) (fun c95 => ?_) (fun c95 => ?_)
                    · have c95 := b2i_f c95
                      have hv := (if_neg c95).symm.trans hv
                      have CUT : ∀ (x1 : Int32) (O9 : MS), (RI O9) → CX8_readDraw_106 M x1 O9 = v → ∀ (H : Heap) (locs : List Loc), va_P D vwC (mW cs w O9) H → va_S (mA w) s.heap H locs → ∀ ls : Array Slot, lv_has ls 2 [(0, .ref (w 0)), (1, .int x1)] → W p l e ({ frames := 2, cells := 0, slots := 0, locals := 48 } : Room) s m args below meth c H locs 0 0 (MQ below (va_Qv (fun u : MS => u = v) (fun u t => va_P D vwC (mW cs w u) t.heap) (mA w)) args s 0 0 (mA w)) (F0 m 106 ls []) := by
                        clear hv
                        intro x1 O9 i0 hv H locs hP hS ls hl
                        unfold CX8_readDraw_106 at hv
                        refine lv_aload_n hx hb dX8_readDraw_106 rfl (lv_at hl 0 rfl) ?_
                        refine lv_aload_n hx hb dX8_readDraw_107 rfl (lv_at hl 0 rfl) ?_
                        obtain ⟨G108, hG108⟩ : ∃ G, sX8_end O9 = G := ⟨_, rfl⟩
                        have k108 := (c_X8_end l D cs w O9 hd i0)
                        rw [hG108] at k108
                        rw [hG108] at hv
                        refine w_b (G108) (va_runV (As := []) (rest := [.ref (w 0)]) ⟨hx, hb, hml, hown, hts⟩ k108 (cwV 0 hts (good_V w_ml_X8_135 w_im_X8_end w_se_X8_end w_in_X8 w_co_X8_end) rfl rfl rfl ⟨rfl, hd_X8_end⟩ ⟨Nat.le_of_ble_eq_true rfl, Nat.le_of_ble_eq_true rfl⟩) (pe_W (C := RX8) (T := TX8) (N := 14) (ci := 8) (q0 := 0) hP hE rfl rfl) rfl rfl hl.1 rfl (lv_room (Nat.le_of_ble_eq_true rfl)) dX8_readDraw_108 ⟨Nat.zero_le _, Nat.zero_le _⟩) hS (fun _ _ h => h) (fun _ h => h) (fun t locs hB hz hk hS => ?_)
                        have hP : va_P D vwC (mW cs w ((G108).2)) t.heap := hB
                        have g1 : RI G108.2 := by rw [← hG108]; exact (PR_end i0).1
                        refine join_i (J := 145) (ls := ls) (rest := [.ref (w 0)]) (b2i (if ((G108).1) = true then (if x1 = (-1) then (if (sX8_canDraw (((G108).2).1.2 3)) = true then true else false) else (if (sX8_hasSheet (((G108).2).1.2 3) x1) = true then (if (sX8_canDraw (((G108).2).1.2 3)) = true then true else false) else false)) else false)) ?_ (fun hJ => ?_)
                        · obtain ⟨G145, hG145⟩ : ∃ G, sX8_goes ((G108).2) (if ((G108).1) = true then (if x1 = (-1) then (if (sX8_canDraw (((G108).2).1.2 3)) = true then true else false) else (if (sX8_hasSheet (((G108).2).1.2 3) x1) = true then (if (sX8_canDraw (((G108).2).1.2 3)) = true then true else false) else false)) else false) = G := ⟨_, rfl⟩
                          have k145 := (c_X8_goes l D cs w ((G108).2) (if ((G108).1) = true then (if x1 = (-1) then (if (sX8_canDraw (((G108).2).1.2 3)) = true then true else false) else (if (sX8_hasSheet (((G108).2).1.2 3) x1) = true then (if (sX8_canDraw (((G108).2).1.2 3)) = true then true else false) else false)) else false) hd)
                          rw [hG145] at k145
                          rw [hG145] at hv
                          refine w_b (G145) (va_runV (As := [.int (b2i (if ((G108).1) = true then (if x1 = (-1) then (if (sX8_canDraw (((G108).2).1.2 3)) = true then true else false) else (if (sX8_hasSheet (((G108).2).1.2 3) x1) = true then (if (sX8_canDraw (((G108).2).1.2 3)) = true then true else false) else false)) else false))]) (rest := []) ⟨hx, hb, hml, hown, hts⟩ k145 (cwV 1 hts (good_V w_ml_X8_146 w_im_X8_goes w_se_X8_goes w_in_X8 w_co_X8_goes) rfl rfl rfl ⟨rfl, hd_X8_goes⟩ ⟨Nat.le_of_ble_eq_true rfl, Nat.le_of_ble_eq_true rfl⟩) (pe_W (C := RX8) (T := TX8) (N := 14) (ci := 8) (q0 := 0) hP hE rfl rfl) rfl rfl hl.1 rfl (lv_room (Nat.le_of_ble_eq_true rfl)) dX8_readDraw_145 ⟨Nat.zero_le _, Nat.zero_le _⟩) hS (fun _ _ h => h) (fun _ h => h) (fun t locs hB hz hk hS => ?_)
                          have hP : va_P D vwC (mW cs w ((G145).2)) t.heap := hB
                          refine lv_if_eq (tgt := 160) hx hb dX8_readDraw_148 (by decide) (fun c148 => ?_) (fun c148 => ?_)
                          · have c148 := b2i_f c148
                            have hv := (if_neg c148).symm.trans hv
                            exact W.vret hx hb hr (fun t ht hW => ⟨⟨((G145).2), rfl, hv, pw ht hP⟩, hS.F ht⟩) hS.2.2 dX8_readDraw_160 (hlocks := hlocks)
                          · have c148 := b2i_t c148
                            have hv := (if_pos c148).symm.trans hv
                            have f1 := goes_t hG145 c148
                            have f2 := rd_t f1
                            refine lv_aload_n hx hb dX8_readDraw_151 rfl (lv_at hl 0 rfl) ?_
                            refine va_get (D := D) (ci := 8) (v := .ref (w 3)) (C := RX8) (T := TX8) (N := 14) hx hb hts iw_X8 hown hK hP 0 rfl rfl 3 (by decide) (hts _ w_fl_X8_16) (fun _ h9 => h9) rfl dX8_readDraw_152 ?_
                            refine lv_iload_n hx hb dX8_readDraw_155 rfl (lv_at hl 1 rfl) ?_
                            obtain ⟨G156, hG156⟩ : ∃ G, sX8_goDraw (((G145).2).1.2 3) x1 = G := ⟨_, rfl⟩
                            have k156 := (c_X8_goDraw l D cs (w 3) (((G145).2).1.2 3) x1 (by rw [goes_r hG145]; exact cd_in g1.2 f2.2))
                            rw [hG156] at k156
                            rw [hG156] at hv
                            refine w_i (G156) (va_runS (As := [.ref (w 3), .int x1]) (rest := []) ⟨hx, hb, hml, hown, hts⟩ k156 (cwS 2 hts (good_S w_ml_X8_150 w_st_X8_goDraw w_in_X8 w_co_X8_goDraw) rfl rfl rfl ⟨rfl, hd_X8_goDraw⟩ ⟨Nat.le_of_ble_eq_true rfl, Nat.le_of_ble_eq_true rfl⟩) (pe_S (hP.sub (ws' := rowW cs (w 3) (((G145).2).1.2 3)) [3] rfl) hE) rfl rfl hl.1 rfl (lv_room (Nat.le_of_ble_eq_true rfl)) dX8_readDraw_156 ⟨Nat.zero_le _, Nat.zero_le _⟩) hS (fun _ _ h => ⟨3, by decide, h⟩) (fun _ h => ⟨3, by decide, h⟩) (fun t locs hB hz hk hS => ?_)
                            have hP : va_P D vwC (mW cs w (msA ((G145).2) 3 ((G156).2))) t.heap := m_up3 hd hP hk hB
                            refine lv_pop hx hb dX8_readDraw_159 rfl ?_
                            exact W.vret hx hb hr (fun t ht hW => ⟨⟨(msA ((G145).2) 3 ((G156).2)), rfl, hv, pw ht hP⟩, hS.F ht⟩) hS.2.2 dX8_readDraw_160 (hlocks := hlocks)
                        · refine lv_if_eq (tgt := 144) hx hb dX8_readDraw_111 (by decide) (fun c111 => ?_) (fun c111 => ?_)
                          · have c111 := b2i_f c111
                            refine lv_iconst (v := 0) hx hb dX8_readDraw_144 (by decide) ?_
                            exact hJ _ (congrArg b2i ((if_neg c111).trans rfl))
                          · have c111 := b2i_t c111
                            refine lv_iload_n hx hb dX8_readDraw_114 rfl (lv_at hl 1 rfl) ?_
                            refine lv_iconst (v := (-1)) hx hb dX8_readDraw_115 (by decide) ?_
                            refine lv_icmp_eq (tgt := 130) hx hb dX8_readDraw_116 (by decide) (fun c116 => ?_) (fun c116 => ?_)
                            · refine lv_aload_n hx hb dX8_readDraw_130 rfl (lv_at hl 0 rfl) ?_
                              refine va_get (D := D) (ci := 8) (v := .ref (w 3)) (C := RX8) (T := TX8) (N := 14) hx hb hts iw_X8 hown hK hP 0 rfl rfl 3 (by decide) (hts _ w_fl_X8_16) (fun _ h9 => h9) rfl dX8_readDraw_131 ?_
                              refine ro_i (b2i (sX8_canDraw (((G108).2).1.2 3))) (run_c (va_runS (As := [.ref (w 3)]) (rest := [.ref (w 0)]) ⟨hx, hb, hml, hown, hts⟩ (c_X8_canDraw l D cs (w 3) (((G108).2).1.2 3)) (cwS 1 hts (good_S w_ml_X8_142 w_st_X8_canDraw w_in_X8 w_co_X8_canDraw) rfl rfl rfl ⟨rfl, hd_X8_canDraw⟩ ⟨Nat.le_of_ble_eq_true rfl, Nat.le_of_ble_eq_true rfl⟩) (pe_S (hP.sub (ws' := rowW cs (w 3) (((G108).2).1.2 3)) [3] rfl) hE) rfl rfl hl.1 rfl (lv_room (Nat.le_of_ble_eq_true rfl)) dX8_readDraw_134 ⟨Nat.zero_le _, Nat.zero_le _⟩)) ?_
                              refine lv_if_eq (tgt := 144) hx hb dX8_readDraw_137 (by decide) (fun c137 => ?_) (fun c137 => ?_)
                              · have c137 := b2i_f c137
                                refine lv_iconst (v := 0) hx hb dX8_readDraw_144 (by decide) ?_
                                exact hJ _ (congrArg b2i ((if_pos c111).trans ((if_pos c116).trans ((if_neg c137).trans rfl))))
                              · have c137 := b2i_t c137
                                refine lv_iconst (v := 1) hx hb dX8_readDraw_140 (by decide) ?_
                                refine lv_goto (tgt := 145) hx hb dX8_readDraw_141 (by decide) ?_
                                exact hJ _ (congrArg b2i ((if_pos c111).trans ((if_pos c116).trans ((if_pos c137).trans rfl))))
                            · refine lv_aload_n hx hb dX8_readDraw_119 rfl (lv_at hl 0 rfl) ?_
                              refine va_get (D := D) (ci := 8) (v := .ref (w 3)) (C := RX8) (T := TX8) (N := 14) hx hb hts iw_X8 hown hK hP 0 rfl rfl 3 (by decide) (hts _ w_fl_X8_16) (fun _ h9 => h9) rfl dX8_readDraw_120 ?_
                              refine lv_iload_n hx hb dX8_readDraw_123 rfl (lv_at hl 1 rfl) ?_
                              refine ro_i (b2i (sX8_hasSheet (((G108).2).1.2 3) x1)) (run_c (va_runS (As := [.ref (w 3), .int x1]) (rest := [.ref (w 0)]) ⟨hx, hb, hml, hown, hts⟩ (c_X8_hasSheet l D cs (w 3) (((G108).2).1.2 3) x1) (cwS 2 hts (good_S w_ml_X8_139 w_st_X8_hasSheet w_in_X8 w_co_X8_hasSheet) rfl rfl rfl ⟨rfl, hd_X8_hasSheet⟩ ⟨Nat.le_of_ble_eq_true rfl, Nat.le_of_ble_eq_true rfl⟩) (pe_S (hP.sub (ws' := rowW cs (w 3) (((G108).2).1.2 3)) [3] rfl) hE) rfl rfl hl.1 rfl (lv_room (Nat.le_of_ble_eq_true rfl)) dX8_readDraw_124 ⟨Nat.zero_le _, Nat.zero_le _⟩)) ?_
                              refine lv_if_eq (tgt := 144) hx hb dX8_readDraw_127 (by decide) (fun c127 => ?_) (fun c127 => ?_)
                              · have c127 := b2i_f c127
                                refine lv_iconst (v := 0) hx hb dX8_readDraw_144 (by decide) ?_
                                exact hJ _ (congrArg b2i ((if_pos c111).trans ((if_neg c116).trans ((if_neg c127).trans rfl))))
                              · have c127 := b2i_t c127
                                refine lv_aload_n hx hb dX8_readDraw_130 rfl (lv_at hl 0 rfl) ?_
                                refine va_get (D := D) (ci := 8) (v := .ref (w 3)) (C := RX8) (T := TX8) (N := 14) hx hb hts iw_X8 hown hK hP 0 rfl rfl 3 (by decide) (hts _ w_fl_X8_16) (fun _ h9 => h9) rfl dX8_readDraw_131 ?_
                                refine ro_i (b2i (sX8_canDraw (((G108).2).1.2 3))) (run_c (va_runS (As := [.ref (w 3)]) (rest := [.ref (w 0)]) ⟨hx, hb, hml, hown, hts⟩ (c_X8_canDraw l D cs (w 3) (((G108).2).1.2 3)) (cwS 1 hts (good_S w_ml_X8_142 w_st_X8_canDraw w_in_X8 w_co_X8_canDraw) rfl rfl rfl ⟨rfl, hd_X8_canDraw⟩ ⟨Nat.le_of_ble_eq_true rfl, Nat.le_of_ble_eq_true rfl⟩) (pe_S (hP.sub (ws' := rowW cs (w 3) (((G108).2).1.2 3)) [3] rfl) hE) rfl rfl hl.1 rfl (lv_room (Nat.le_of_ble_eq_true rfl)) dX8_readDraw_134 ⟨Nat.zero_le _, Nat.zero_le _⟩)) ?_
                                refine lv_if_eq (tgt := 144) hx hb dX8_readDraw_137 (by decide) (fun c137 => ?_) (fun c137 => ?_)
                                · have c137 := b2i_f c137
                                  refine lv_iconst (v := 0) hx hb dX8_readDraw_144 (by decide) ?_
                                  exact hJ _ (congrArg b2i ((if_pos c111).trans ((if_neg c116).trans ((if_pos c127).trans ((if_neg c137).trans rfl)))))
                                · have c137 := b2i_t c137
                                  refine lv_iconst (v := 1) hx hb dX8_readDraw_140 (by decide) ?_
                                  refine lv_goto (tgt := 145) hx hb dX8_readDraw_141 (by decide) ?_
                                  exact hJ _ (congrArg b2i ((if_pos c111).trans ((if_neg c116).trans ((if_pos c127).trans ((if_pos c137).trans rfl)))))
                      exact CUT (-1) O9 (by first | exact i0 | (rw [← hG102]; exact (PR_digit i0 (by decide)).1)) hv _ _ hP hS ls (lv_sub hl [1, 0] rfl)
                    · have c95 := b2i_t c95
                      have hv := (if_pos c95).symm.trans hv
                      refine lv_aload_n hx hb dX8_readDraw_98 rfl (lv_at hl 1 rfl) ?_
                      refine lv_iconst (v := 0) hx hb dX8_readDraw_99 (by decide) ?_
                      refine lv_bipush (v := 9) hx hb dX8_readDraw_100 (by decide) ?_
                      obtain ⟨G102, hG102⟩ : ∃ G, sX8_digit O9 0 9 = G := ⟨_, rfl⟩
                      have k102 := (c_X8_digit l D cs w O9 0 9 hd i0)
                      rw [hG102] at k102
                      rw [hG102] at hv
                      refine w_i (G102) (va_runV (As := [.int 0, .int 9]) (rest := []) ⟨hx, hb, hml, hown, hts⟩ k102 (cwV 2 hts (good_V w_ml_X8_124 w_im_X8_digit w_se_X8_digit w_in_X8 w_co_X8_digit) rfl rfl rfl ⟨rfl, hd_X8_digit⟩ ⟨Nat.le_of_ble_eq_true rfl, Nat.le_of_ble_eq_true rfl⟩) (pe_W (C := RX8) (T := TX8) (N := 14) (ci := 8) (q0 := 0) hP hE rfl rfl) rfl rfl hl.1 rfl (lv_room (Nat.le_of_ble_eq_true rfl)) dX8_readDraw_102 ⟨Nat.zero_le _, Nat.zero_le _⟩) hS (fun _ _ h => h) (fun _ h => h) (fun t locs hB hz hk hS => ?_)
                      have hP : va_P D vwC (mW cs w ((G102).2)) t.heap := hB
                      refine lv_istore_n (lv' := [(1, .int ((G102).1)), (0, .ref (w 0))]) hx hb dX8_readDraw_105 rfl hl (by decide) rfl (fun ls hl => ?_)
                      have CUT : ∀ (x1 : Int32) (O9 : MS), (RI O9) → CX8_readDraw_106 M x1 O9 = v → ∀ (H : Heap) (locs : List Loc), va_P D vwC (mW cs w O9) H → va_S (mA w) s.heap H locs → ∀ ls : Array Slot, lv_has ls 2 [(0, .ref (w 0)), (1, .int x1)] → W p l e ({ frames := 2, cells := 0, slots := 0, locals := 48 } : Room) s m args below meth c H locs 0 0 (MQ below (va_Qv (fun u : MS => u = v) (fun u t => va_P D vwC (mW cs w u) t.heap) (mA w)) args s 0 0 (mA w)) (F0 m 106 ls []) := by
                        clear hv
                        intro x1 O9 i0 hv H locs hP hS ls hl
                        unfold CX8_readDraw_106 at hv
                        refine lv_aload_n hx hb dX8_readDraw_106 rfl (lv_at hl 0 rfl) ?_
                        refine lv_aload_n hx hb dX8_readDraw_107 rfl (lv_at hl 0 rfl) ?_
                        obtain ⟨G108, hG108⟩ : ∃ G, sX8_end O9 = G := ⟨_, rfl⟩
                        have k108 := (c_X8_end l D cs w O9 hd i0)
                        rw [hG108] at k108
                        rw [hG108] at hv
                        refine w_b (G108) (va_runV (As := []) (rest := [.ref (w 0)]) ⟨hx, hb, hml, hown, hts⟩ k108 (cwV 0 hts (good_V w_ml_X8_135 w_im_X8_end w_se_X8_end w_in_X8 w_co_X8_end) rfl rfl rfl ⟨rfl, hd_X8_end⟩ ⟨Nat.le_of_ble_eq_true rfl, Nat.le_of_ble_eq_true rfl⟩) (pe_W (C := RX8) (T := TX8) (N := 14) (ci := 8) (q0 := 0) hP hE rfl rfl) rfl rfl hl.1 rfl (lv_room (Nat.le_of_ble_eq_true rfl)) dX8_readDraw_108 ⟨Nat.zero_le _, Nat.zero_le _⟩) hS (fun _ _ h => h) (fun _ h => h) (fun t locs hB hz hk hS => ?_)
                        have hP : va_P D vwC (mW cs w ((G108).2)) t.heap := hB
                        have g1 : RI G108.2 := by rw [← hG108]; exact (PR_end i0).1
                        refine join_i (J := 145) (ls := ls) (rest := [.ref (w 0)]) (b2i (if ((G108).1) = true then (if x1 = (-1) then (if (sX8_canDraw (((G108).2).1.2 3)) = true then true else false) else (if (sX8_hasSheet (((G108).2).1.2 3) x1) = true then (if (sX8_canDraw (((G108).2).1.2 3)) = true then true else false) else false)) else false)) ?_ (fun hJ => ?_)
                        · obtain ⟨G145, hG145⟩ : ∃ G, sX8_goes ((G108).2) (if ((G108).1) = true then (if x1 = (-1) then (if (sX8_canDraw (((G108).2).1.2 3)) = true then true else false) else (if (sX8_hasSheet (((G108).2).1.2 3) x1) = true then (if (sX8_canDraw (((G108).2).1.2 3)) = true then true else false) else false)) else false) = G := ⟨_, rfl⟩
                          have k145 := (c_X8_goes l D cs w ((G108).2) (if ((G108).1) = true then (if x1 = (-1) then (if (sX8_canDraw (((G108).2).1.2 3)) = true then true else false) else (if (sX8_hasSheet (((G108).2).1.2 3) x1) = true then (if (sX8_canDraw (((G108).2).1.2 3)) = true then true else false) else false)) else false) hd)
                          rw [hG145] at k145
                          rw [hG145] at hv
                          refine w_b (G145) (va_runV (As := [.int (b2i (if ((G108).1) = true then (if x1 = (-1) then (if (sX8_canDraw (((G108).2).1.2 3)) = true then true else false) else (if (sX8_hasSheet (((G108).2).1.2 3) x1) = true then (if (sX8_canDraw (((G108).2).1.2 3)) = true then true else false) else false)) else false))]) (rest := []) ⟨hx, hb, hml, hown, hts⟩ k145 (cwV 1 hts (good_V w_ml_X8_146 w_im_X8_goes w_se_X8_goes w_in_X8 w_co_X8_goes) rfl rfl rfl ⟨rfl, hd_X8_goes⟩ ⟨Nat.le_of_ble_eq_true rfl, Nat.le_of_ble_eq_true rfl⟩) (pe_W (C := RX8) (T := TX8) (N := 14) (ci := 8) (q0 := 0) hP hE rfl rfl) rfl rfl hl.1 rfl (lv_room (Nat.le_of_ble_eq_true rfl)) dX8_readDraw_145 ⟨Nat.zero_le _, Nat.zero_le _⟩) hS (fun _ _ h => h) (fun _ h => h) (fun t locs hB hz hk hS => ?_)
                          have hP : va_P D vwC (mW cs w ((G145).2)) t.heap := hB
                          refine lv_if_eq (tgt := 160) hx hb dX8_readDraw_148 (by decide) (fun c148 => ?_) (fun c148 => ?_)
                          · have c148 := b2i_f c148
                            have hv := (if_neg c148).symm.trans hv
                            exact W.vret hx hb hr (fun t ht hW => ⟨⟨((G145).2), rfl, hv, pw ht hP⟩, hS.F ht⟩) hS.2.2 dX8_readDraw_160 (hlocks := hlocks)
                          · have c148 := b2i_t c148
                            have hv := (if_pos c148).symm.trans hv
                            have f1 := goes_t hG145 c148
                            have f2 := rd_t f1
                            refine lv_aload_n hx hb dX8_readDraw_151 rfl (lv_at hl 0 rfl) ?_
                            refine va_get (D := D) (ci := 8) (v := .ref (w 3)) (C := RX8) (T := TX8) (N := 14) hx hb hts iw_X8 hown hK hP 0 rfl rfl 3 (by decide) (hts _ w_fl_X8_16) (fun _ h9 => h9) rfl dX8_readDraw_152 ?_
                            refine lv_iload_n hx hb dX8_readDraw_155 rfl (lv_at hl 1 rfl) ?_
                            obtain ⟨G156, hG156⟩ : ∃ G, sX8_goDraw (((G145).2).1.2 3) x1 = G := ⟨_, rfl⟩
                            have k156 := (c_X8_goDraw l D cs (w 3) (((G145).2).1.2 3) x1 (by rw [goes_r hG145]; exact cd_in g1.2 f2.2))
                            rw [hG156] at k156
                            rw [hG156] at hv
                            refine w_i (G156) (va_runS (As := [.ref (w 3), .int x1]) (rest := []) ⟨hx, hb, hml, hown, hts⟩ k156 (cwS 2 hts (good_S w_ml_X8_150 w_st_X8_goDraw w_in_X8 w_co_X8_goDraw) rfl rfl rfl ⟨rfl, hd_X8_goDraw⟩ ⟨Nat.le_of_ble_eq_true rfl, Nat.le_of_ble_eq_true rfl⟩) (pe_S (hP.sub (ws' := rowW cs (w 3) (((G145).2).1.2 3)) [3] rfl) hE) rfl rfl hl.1 rfl (lv_room (Nat.le_of_ble_eq_true rfl)) dX8_readDraw_156 ⟨Nat.zero_le _, Nat.zero_le _⟩) hS (fun _ _ h => ⟨3, by decide, h⟩) (fun _ h => ⟨3, by decide, h⟩) (fun t locs hB hz hk hS => ?_)
                            have hP : va_P D vwC (mW cs w (msA ((G145).2) 3 ((G156).2))) t.heap := m_up3 hd hP hk hB
                            refine lv_pop hx hb dX8_readDraw_159 rfl ?_
                            exact W.vret hx hb hr (fun t ht hW => ⟨⟨(msA ((G145).2) 3 ((G156).2)), rfl, hv, pw ht hP⟩, hS.F ht⟩) hS.2.2 dX8_readDraw_160 (hlocks := hlocks)
                        · refine lv_if_eq (tgt := 144) hx hb dX8_readDraw_111 (by decide) (fun c111 => ?_) (fun c111 => ?_)
                          · have c111 := b2i_f c111
                            refine lv_iconst (v := 0) hx hb dX8_readDraw_144 (by decide) ?_
                            exact hJ _ (congrArg b2i ((if_neg c111).trans rfl))
                          · have c111 := b2i_t c111
                            refine lv_iload_n hx hb dX8_readDraw_114 rfl (lv_at hl 1 rfl) ?_
                            refine lv_iconst (v := (-1)) hx hb dX8_readDraw_115 (by decide) ?_
                            refine lv_icmp_eq (tgt := 130) hx hb dX8_readDraw_116 (by decide) (fun c116 => ?_) (fun c116 => ?_)
                            · refine lv_aload_n hx hb dX8_readDraw_130 rfl (lv_at hl 0 rfl) ?_
                              refine va_get (D := D) (ci := 8) (v := .ref (w 3)) (C := RX8) (T := TX8) (N := 14) hx hb hts iw_X8 hown hK hP 0 rfl rfl 3 (by decide) (hts _ w_fl_X8_16) (fun _ h9 => h9) rfl dX8_readDraw_131 ?_
                              refine ro_i (b2i (sX8_canDraw (((G108).2).1.2 3))) (run_c (va_runS (As := [.ref (w 3)]) (rest := [.ref (w 0)]) ⟨hx, hb, hml, hown, hts⟩ (c_X8_canDraw l D cs (w 3) (((G108).2).1.2 3)) (cwS 1 hts (good_S w_ml_X8_142 w_st_X8_canDraw w_in_X8 w_co_X8_canDraw) rfl rfl rfl ⟨rfl, hd_X8_canDraw⟩ ⟨Nat.le_of_ble_eq_true rfl, Nat.le_of_ble_eq_true rfl⟩) (pe_S (hP.sub (ws' := rowW cs (w 3) (((G108).2).1.2 3)) [3] rfl) hE) rfl rfl hl.1 rfl (lv_room (Nat.le_of_ble_eq_true rfl)) dX8_readDraw_134 ⟨Nat.zero_le _, Nat.zero_le _⟩)) ?_
                              refine lv_if_eq (tgt := 144) hx hb dX8_readDraw_137 (by decide) (fun c137 => ?_) (fun c137 => ?_)
                              · have c137 := b2i_f c137
                                refine lv_iconst (v := 0) hx hb dX8_readDraw_144 (by decide) ?_
                                exact hJ _ (congrArg b2i ((if_pos c111).trans ((if_pos c116).trans ((if_neg c137).trans rfl))))
                              · have c137 := b2i_t c137
                                refine lv_iconst (v := 1) hx hb dX8_readDraw_140 (by decide) ?_
                                refine lv_goto (tgt := 145) hx hb dX8_readDraw_141 (by decide) ?_
                                exact hJ _ (congrArg b2i ((if_pos c111).trans ((if_pos c116).trans ((if_pos c137).trans rfl))))
                            · refine lv_aload_n hx hb dX8_readDraw_119 rfl (lv_at hl 0 rfl) ?_
                              refine va_get (D := D) (ci := 8) (v := .ref (w 3)) (C := RX8) (T := TX8) (N := 14) hx hb hts iw_X8 hown hK hP 0 rfl rfl 3 (by decide) (hts _ w_fl_X8_16) (fun _ h9 => h9) rfl dX8_readDraw_120 ?_
                              refine lv_iload_n hx hb dX8_readDraw_123 rfl (lv_at hl 1 rfl) ?_
                              refine ro_i (b2i (sX8_hasSheet (((G108).2).1.2 3) x1)) (run_c (va_runS (As := [.ref (w 3), .int x1]) (rest := [.ref (w 0)]) ⟨hx, hb, hml, hown, hts⟩ (c_X8_hasSheet l D cs (w 3) (((G108).2).1.2 3) x1) (cwS 2 hts (good_S w_ml_X8_139 w_st_X8_hasSheet w_in_X8 w_co_X8_hasSheet) rfl rfl rfl ⟨rfl, hd_X8_hasSheet⟩ ⟨Nat.le_of_ble_eq_true rfl, Nat.le_of_ble_eq_true rfl⟩) (pe_S (hP.sub (ws' := rowW cs (w 3) (((G108).2).1.2 3)) [3] rfl) hE) rfl rfl hl.1 rfl (lv_room (Nat.le_of_ble_eq_true rfl)) dX8_readDraw_124 ⟨Nat.zero_le _, Nat.zero_le _⟩)) ?_
                              refine lv_if_eq (tgt := 144) hx hb dX8_readDraw_127 (by decide) (fun c127 => ?_) (fun c127 => ?_)
                              · have c127 := b2i_f c127
                                refine lv_iconst (v := 0) hx hb dX8_readDraw_144 (by decide) ?_
                                exact hJ _ (congrArg b2i ((if_pos c111).trans ((if_neg c116).trans ((if_neg c127).trans rfl))))
                              · have c127 := b2i_t c127
                                refine lv_aload_n hx hb dX8_readDraw_130 rfl (lv_at hl 0 rfl) ?_
                                refine va_get (D := D) (ci := 8) (v := .ref (w 3)) (C := RX8) (T := TX8) (N := 14) hx hb hts iw_X8 hown hK hP 0 rfl rfl 3 (by decide) (hts _ w_fl_X8_16) (fun _ h9 => h9) rfl dX8_readDraw_131 ?_
                                refine ro_i (b2i (sX8_canDraw (((G108).2).1.2 3))) (run_c (va_runS (As := [.ref (w 3)]) (rest := [.ref (w 0)]) ⟨hx, hb, hml, hown, hts⟩ (c_X8_canDraw l D cs (w 3) (((G108).2).1.2 3)) (cwS 1 hts (good_S w_ml_X8_142 w_st_X8_canDraw w_in_X8 w_co_X8_canDraw) rfl rfl rfl ⟨rfl, hd_X8_canDraw⟩ ⟨Nat.le_of_ble_eq_true rfl, Nat.le_of_ble_eq_true rfl⟩) (pe_S (hP.sub (ws' := rowW cs (w 3) (((G108).2).1.2 3)) [3] rfl) hE) rfl rfl hl.1 rfl (lv_room (Nat.le_of_ble_eq_true rfl)) dX8_readDraw_134 ⟨Nat.zero_le _, Nat.zero_le _⟩)) ?_
                                refine lv_if_eq (tgt := 144) hx hb dX8_readDraw_137 (by decide) (fun c137 => ?_) (fun c137 => ?_)
                                · have c137 := b2i_f c137
                                  refine lv_iconst (v := 0) hx hb dX8_readDraw_144 (by decide) ?_
                                  exact hJ _ (congrArg b2i ((if_pos c111).trans ((if_neg c116).trans ((if_pos c127).trans ((if_neg c137).trans rfl)))))
                                · have c137 := b2i_t c137
                                  refine lv_iconst (v := 1) hx hb dX8_readDraw_140 (by decide) ?_
                                  refine lv_goto (tgt := 145) hx hb dX8_readDraw_141 (by decide) ?_
                                  exact hJ _ (congrArg b2i ((if_pos c111).trans ((if_neg c116).trans ((if_pos c127).trans ((if_pos c137).trans rfl)))))
                      exact CUT ((G102).1) ((G102).2) (by first | exact i0 | (rw [← hG102]; exact (PR_digit i0 (by decide)).1)) hv _ _ hP hS ls (lv_sub hl [1, 0] rfl)
                exact CUT (G69) (by rw [← hG69]; exact (PR_th i0 (by decide)).1) hv _ _ hP hS ls (lv_sub hl [0] rfl)
              · refine lv_icmp_ne (tgt := 68) hx hb dX8_readDraw_61 (by decide) (fun c61 => ?_) (fun c61 => ?_)
                · refine lv_iconst (v := 0) hx hb dX8_readDraw_68 (by decide) ?_
                  exact hJ _ (congrArg b2i ((if_neg c61).trans rfl))
                · refine lv_iconst (v := 1) hx hb dX8_readDraw_64 (by decide) ?_
                  refine lv_goto (tgt := 69) hx hb dX8_readDraw_65 (by decide) ?_
                  exact hJ _ (congrArg b2i ((if_pos c61).trans rfl))
            exact CUT (G51) (by rw [← hG51]; exact (PR_th i0 (by decide)).1) hv _ _ hP hS ls (lv_sub hl [0] rfl)
          · refine lv_icmp_ne (tgt := 50) hx hb dX8_readDraw_43 (by decide) (fun c43 => ?_) (fun c43 => ?_)
            · refine lv_iconst (v := 0) hx hb dX8_readDraw_50 (by decide) ?_
              exact hJ _ (congrArg b2i ((if_neg c43).trans rfl))
            · refine lv_iconst (v := 1) hx hb dX8_readDraw_46 (by decide) ?_
              refine lv_goto (tgt := 51) hx hb dX8_readDraw_47 (by decide) ?_
              exact hJ _ (congrArg b2i ((if_pos c43).trans rfl))
        exact CUT (G33) (by rw [← hG33]; exact (PR_th i0 (by decide)).1) hv _ _ hP hS ls (lv_sub hl [0] rfl)
      · refine lv_icmp_ne (tgt := 32) hx hb dX8_readDraw_25 (by decide) (fun c25 => ?_) (fun c25 => ?_)
        · refine lv_iconst (v := 0) hx hb dX8_readDraw_32 (by decide) ?_
          exact hJ _ (congrArg b2i ((if_neg c25).trans rfl))
        · refine lv_iconst (v := 1) hx hb dX8_readDraw_28 (by decide) ?_
          refine lv_goto (tgt := 33) hx hb dX8_readDraw_29 (by decide) ?_
          exact hJ _ (congrArg b2i ((if_pos c25).trans rfl))
    exact CUT (G15) (by rw [← hG15]; exact (PR_th hri (by decide)).1) hv _ _ hP hS ls (lv_sub hl [0] rfl)
  · refine lv_icmp_ne (tgt := 14) hx hb dX8_readDraw_7 (by decide) (fun c7 => ?_) (fun c7 => ?_)
    · refine lv_iconst (v := 0) hx hb dX8_readDraw_14 (by decide) ?_
      exact hJ _ (congrArg b2i ((if_neg c7).trans rfl))
    · refine lv_iconst (v := 1) hx hb dX8_readDraw_10 (by decide) ?_
      refine lv_goto (tgt := 15) hx hb dX8_readDraw_11 (by decide) ?_
      exact hJ _ (congrArg b2i ((if_pos c7).trans rfl))
theorem PR_readDraw {M : MS} (h : RI M) : PR M (sX8_readDraw M) := by
  have k106 : ∀ x1 O9, RI O9 → PR O9 (CX8_readDraw_106 M x1 O9) := by
    intro x1 O9 h
    unfold CX8_readDraw_106
    have e := PR_end h
    refine pr_if (fun c => ?_) (fun _ => e.tr (PR_goes e.1))
    have f2 := rd_t (goes_t rfl c)
    refine (e.tr (PR_goes e.1)).tr (PR_row (PR_goes e.1).1 ?_)
    rw [goes_r rfl]
    refine MV_draw e.1.2 (cd_in e.1.2 f2.2) ?_
    rcases f2.1 with b | d
    · rw [b]; exact at1_m e.1.2
    · exact (hasS_t e.1.2.1.1 d).a
  have k72 : ∀ O9, RI O9 → PR O9 (CX8_readDraw_72 M O9) := by
    intro O9 h
    unfold CX8_readDraw_72
    refine pr_if (fun _ => ?_) (fun _ => k106 _ _ h)
    refine pr_if (fun _ => ?_) (fun _ => k106 _ _ h)
    exact (PR_digit h (by decide)).th (k106 _ _)
  have k54 : ∀ O9, RI O9 → PR O9 (CX8_readDraw_54 M O9) := by
    intro O9 h
    unfold CX8_readDraw_54
    exact (PR_th h (by decide)).th (k72 _)
  have k36 : ∀ O9, RI O9 → PR O9 (CX8_readDraw_36 M O9) := by
    intro O9 h
    unfold CX8_readDraw_36
    exact (PR_th h (by decide)).th (k54 _)
  have k18 : ∀ O9, RI O9 → PR O9 (CX8_readDraw_18 M O9) := by
    intro O9 h
    unfold CX8_readDraw_18
    exact (PR_th h (by decide)).th (k36 _)
  unfold sX8_readDraw
  exact (PR_th h (by decide)).th (k18 _)
theorem hd_X8_readRevise : yX8_readRevise.cls ≠ "java/lang/invoke/MethodHandle" ∧ yX8_readRevise.cls ≠ "java/lang/invoke/VarHandle" ∧ (parseMethodDescriptor yX8_readRevise.desc).map (fun d => d.parameters.length) = some 0 := by decide +kernel
def CX8_readRevise_48 (M : MS) (x1 : Int32) (O9 : MS) : MS := (if (((sX8_goes (((sX8_end O9)).2) (if (((sX8_end O9)).1) = true then (if (sX8_hasSheet ((((sX8_end O9)).2).1.2 3) x1) = true then (if (sX8_canRevise ((((sX8_end O9)).2).1.2 3) x1) = true then true else false) else false) else false))).1) = true then (msA (((sX8_goes (((sX8_end O9)).2) (if (((sX8_end O9)).1) = true then (if (sX8_hasSheet ((((sX8_end O9)).2).1.2 3) x1) = true then (if (sX8_canRevise ((((sX8_end O9)).2).1.2 3) x1) = true then true else false) else false) else false))).2) 3 (((sX8_goRevise ((((sX8_goes (((sX8_end O9)).2) (if (((sX8_end O9)).1) = true then (if (sX8_hasSheet ((((sX8_end O9)).2).1.2 3) x1) = true then (if (sX8_canRevise ((((sX8_end O9)).2).1.2 3) x1) = true then true else false) else false) else false))).2).1.2 3) x1 ((((sX8_goes (((sX8_end O9)).2) (if (((sX8_end O9)).1) = true then (if (sX8_hasSheet ((((sX8_end O9)).2).1.2 3) x1) = true then (if (sX8_canRevise ((((sX8_end O9)).2).1.2 3) x1) = true then true else false) else false) else false))).2).1.1 6))).2)) else (((sX8_goes (((sX8_end O9)).2) (if (((sX8_end O9)).1) = true then (if (sX8_hasSheet ((((sX8_end O9)).2).1.2 3) x1) = true then (if (sX8_canRevise ((((sX8_end O9)).2).1.2 3) x1) = true then true else false) else false) else false))).2))
def CX8_readRevise_44 (M : MS) (x1 : Int32) (O9 : MS) : MS := (CX8_readRevise_48 M x1 ((sX8_readCloud O9)))
def CX8_readRevise_26 (M : MS) (x1 : Int32) (O9 : MS) : MS := (CX8_readRevise_44 M x1 ((sX8_take O9 (if (sX8_here O9) = 58 then true else false))))
def CX8_readRevise_18 (M : MS) (O9 : MS) : MS := (CX8_readRevise_26 M (((sX8_digit O9 0 9)).1) (((sX8_digit O9 0 9)).2))
def sX8_readRevise (M : MS) : MS := (CX8_readRevise_18 M ((sX8_take M (if (sX8_here M) = 118 then true else false))))
set_option maxHeartbeats 4000000 in
set_option maxRecDepth 100000 in
theorem c_X8_readRevise (l : Launch) (D : va_G) (cs : Nat → ClassId) (w : Nat → Nat) (M : MS) (hd : mD w) (hri : RI M) : Met l yX8_readRevise (wc yX8_readRevise cX8_readRevise 2 none) ({ frames := 4, cells := 0, slots := 0, locals := 95 } : Room) (va_Pc [.ref (w 0)] (PE D cs (mW cs w M))) (va_Qv (fun u : MS => u = (sX8_readRevise M)) (fun u t => va_P D vwC (mW cs w u) t.heap) (mA w)) 0 0 (mA w) := by
  obtain ⟨v, hv⟩ : ∃ v, sX8_readRevise M = v := ⟨_, rfl⟩
  rw [hv]
  refine met_o (lv := [(0, .ref (w 0))]) (by decide) (Nat.le_of_ble_eq_true rfl) rfl ?_
  intro p e s m args below meth c ls hx hb hr hml hts hown hlocks hin hP hE hl
  have hown : s.vm.findClass RX8 = some m.cls := hown
  have hK := hE.1
  have hP : va_P D vwC (mW cs w M) s.heap := hP
  have hS : va_S (mA w) s.heap s.heap [] := va_S.rf
  unfold sX8_readRevise at hv
  refine lv_aload_n hx hb dX8_readRevise_0 rfl (lv_at hl 0 rfl) ?_
  refine lv_aload_n hx hb dX8_readRevise_1 rfl (lv_at hl 0 rfl) ?_
  refine ro_i (sX8_here M) (run_c (va_runV (As := []) (rest := [.ref (w 0)]) ⟨hx, hb, hml, hown, hts⟩ (c_X8_here l D cs w M hri) (cwV 0 hts (good_V w_ml_X8_116 w_im_X8_here w_se_X8_here w_in_X8 w_co_X8_here) rfl rfl rfl ⟨rfl, hd_X8_here⟩ ⟨Nat.le_of_ble_eq_true rfl, Nat.le_of_ble_eq_true rfl⟩) (pe_W (C := RX8) (T := TX8) (N := 14) (ci := 8) (q0 := 0) hP hE rfl rfl) rfl rfl hl.1 rfl (lv_room (Nat.le_of_ble_eq_true rfl)) dX8_readRevise_2 ⟨Nat.zero_le _, Nat.zero_le _⟩)) ?_
  refine lv_bipush (v := 118) hx hb dX8_readRevise_5 (by decide) ?_
  refine join_i (J := 15) (ls := ls) (rest := [.ref (w 0)]) (b2i (if (sX8_here M) = 118 then true else false)) ?_ (fun hJ => ?_)
  · obtain ⟨G15, hG15⟩ : ∃ G, sX8_take M (if (sX8_here M) = 118 then true else false) = G := ⟨_, rfl⟩
    have k15 := (c_X8_take l D cs w M (if (sX8_here M) = 118 then true else false) hd)
    rw [hG15] at k15
    rw [hG15] at hv
    refine w_v (G15) (va_runV (As := [.int (b2i (if (sX8_here M) = 118 then true else false))]) (rest := []) ⟨hx, hb, hml, hown, hts⟩ k15 (cwV 1 hts (good_V w_ml_X8_120 w_im_X8_take w_se_X8_take w_in_X8 w_co_X8_take) rfl rfl rfl ⟨rfl, hd_X8_take⟩ ⟨Nat.le_of_ble_eq_true rfl, Nat.le_of_ble_eq_true rfl⟩) (pe_W (C := RX8) (T := TX8) (N := 14) (ci := 8) (q0 := 0) hP hE rfl rfl) rfl rfl hl.1 rfl (lv_room (Nat.le_of_ble_eq_true rfl)) dX8_readRevise_15 ⟨Nat.zero_le _, Nat.zero_le _⟩) hS (fun _ _ h => h) (fun _ h => h) (fun t locs hB hz hk hS => ?_)
    have hP : va_P D vwC (mW cs w (G15)) t.heap := hB
    have CUT : ∀ (O9 : MS), (RI O9) → CX8_readRevise_18 M O9 = v → ∀ (H : Heap) (locs : List Loc), va_P D vwC (mW cs w O9) H → va_S (mA w) s.heap H locs → ∀ ls : Array Slot, lv_has ls 2 [(0, .ref (w 0))] → W p l e ({ frames := 4, cells := 0, slots := 0, locals := 95 } : Room) s m args below meth c H locs 0 0 (MQ below (va_Qv (fun u : MS => u = v) (fun u t => va_P D vwC (mW cs w u) t.heap) (mA w)) args s 0 0 (mA w)) (F0 m 18 ls []) := by
      clear hv
      intro O9 i0 hv H locs hP hS ls hl
      unfold CX8_readRevise_18 at hv
      refine lv_aload_n hx hb dX8_readRevise_18 rfl (lv_at hl 0 rfl) ?_
      refine lv_iconst (v := 0) hx hb dX8_readRevise_19 (by decide) ?_
      refine lv_bipush (v := 9) hx hb dX8_readRevise_20 (by decide) ?_
      obtain ⟨G22, hG22⟩ : ∃ G, sX8_digit O9 0 9 = G := ⟨_, rfl⟩
      have k22 := (c_X8_digit l D cs w O9 0 9 hd i0)
      rw [hG22] at k22
      rw [hG22] at hv
      refine w_i (G22) (va_runV (As := [.int 0, .int 9]) (rest := []) ⟨hx, hb, hml, hown, hts⟩ k22 (cwV 2 hts (good_V w_ml_X8_124 w_im_X8_digit w_se_X8_digit w_in_X8 w_co_X8_digit) rfl rfl rfl ⟨rfl, hd_X8_digit⟩ ⟨Nat.le_of_ble_eq_true rfl, Nat.le_of_ble_eq_true rfl⟩) (pe_W (C := RX8) (T := TX8) (N := 14) (ci := 8) (q0 := 0) hP hE rfl rfl) rfl rfl hl.1 rfl (lv_room (Nat.le_of_ble_eq_true rfl)) dX8_readRevise_22 ⟨Nat.zero_le _, Nat.zero_le _⟩) hS (fun _ _ h => h) (fun _ h => h) (fun t locs hB hz hk hS => ?_)
      have hP : va_P D vwC (mW cs w ((G22).2)) t.heap := hB
      refine lv_istore_n (lv' := [(1, .int ((G22).1)), (0, .ref (w 0))]) hx hb dX8_readRevise_25 rfl hl (by decide) rfl (fun ls hl => ?_)
      have CUT : ∀ (x1 : Int32) (O9 : MS), (RI O9) → CX8_readRevise_26 M x1 O9 = v → ∀ (H : Heap) (locs : List Loc), va_P D vwC (mW cs w O9) H → va_S (mA w) s.heap H locs → ∀ ls : Array Slot, lv_has ls 2 [(0, .ref (w 0)), (1, .int x1)] → W p l e ({ frames := 4, cells := 0, slots := 0, locals := 95 } : Room) s m args below meth c H locs 0 0 (MQ below (va_Qv (fun u : MS => u = v) (fun u t => va_P D vwC (mW cs w u) t.heap) (mA w)) args s 0 0 (mA w)) (F0 m 26 ls []) := by
        clear hv
        intro x1 O9 i0 hv H locs hP hS ls hl
        unfold CX8_readRevise_26 at hv
        refine lv_aload_n hx hb dX8_readRevise_26 rfl (lv_at hl 0 rfl) ?_
        refine lv_aload_n hx hb dX8_readRevise_27 rfl (lv_at hl 0 rfl) ?_
        refine ro_i (sX8_here O9) (run_c (va_runV (As := []) (rest := [.ref (w 0)]) ⟨hx, hb, hml, hown, hts⟩ (c_X8_here l D cs w O9 i0) (cwV 0 hts (good_V w_ml_X8_116 w_im_X8_here w_se_X8_here w_in_X8 w_co_X8_here) rfl rfl rfl ⟨rfl, hd_X8_here⟩ ⟨Nat.le_of_ble_eq_true rfl, Nat.le_of_ble_eq_true rfl⟩) (pe_W (C := RX8) (T := TX8) (N := 14) (ci := 8) (q0 := 0) hP hE rfl rfl) rfl rfl hl.1 rfl (lv_room (Nat.le_of_ble_eq_true rfl)) dX8_readRevise_28 ⟨Nat.zero_le _, Nat.zero_le _⟩)) ?_
        refine lv_bipush (v := 58) hx hb dX8_readRevise_31 (by decide) ?_
        refine join_i (J := 41) (ls := ls) (rest := [.ref (w 0)]) (b2i (if (sX8_here O9) = 58 then true else false)) ?_ (fun hJ => ?_)
        · obtain ⟨G41, hG41⟩ : ∃ G, sX8_take O9 (if (sX8_here O9) = 58 then true else false) = G := ⟨_, rfl⟩
          have k41 := (c_X8_take l D cs w O9 (if (sX8_here O9) = 58 then true else false) hd)
          rw [hG41] at k41
          rw [hG41] at hv
          refine w_v (G41) (va_runV (As := [.int (b2i (if (sX8_here O9) = 58 then true else false))]) (rest := []) ⟨hx, hb, hml, hown, hts⟩ k41 (cwV 1 hts (good_V w_ml_X8_120 w_im_X8_take w_se_X8_take w_in_X8 w_co_X8_take) rfl rfl rfl ⟨rfl, hd_X8_take⟩ ⟨Nat.le_of_ble_eq_true rfl, Nat.le_of_ble_eq_true rfl⟩) (pe_W (C := RX8) (T := TX8) (N := 14) (ci := 8) (q0 := 0) hP hE rfl rfl) rfl rfl hl.1 rfl (lv_room (Nat.le_of_ble_eq_true rfl)) dX8_readRevise_41 ⟨Nat.zero_le _, Nat.zero_le _⟩) hS (fun _ _ h => h) (fun _ h => h) (fun t locs hB hz hk hS => ?_)
          have hP : va_P D vwC (mW cs w (G41)) t.heap := hB
          have CUT : ∀ (x1 : Int32) (O9 : MS), (RI O9) → CX8_readRevise_44 M x1 O9 = v → ∀ (H : Heap) (locs : List Loc), va_P D vwC (mW cs w O9) H → va_S (mA w) s.heap H locs → ∀ ls : Array Slot, lv_has ls 2 [(0, .ref (w 0)), (1, .int x1)] → W p l e ({ frames := 4, cells := 0, slots := 0, locals := 95 } : Room) s m args below meth c H locs 0 0 (MQ below (va_Qv (fun u : MS => u = v) (fun u t => va_P D vwC (mW cs w u) t.heap) (mA w)) args s 0 0 (mA w)) (F0 m 44 ls []) := by
            clear hv
            intro x1 O9 i0 hv H locs hP hS ls hl
            unfold CX8_readRevise_44 at hv
            refine lv_aload_n hx hb dX8_readRevise_44 rfl (lv_at hl 0 rfl) ?_
            obtain ⟨G45, hG45⟩ : ∃ G, sX8_readCloud O9 = G := ⟨_, rfl⟩
            have k45 := (c_X8_readCloud l D cs w O9 hd i0)
            rw [hG45] at k45
            rw [hG45] at hv
            refine w_v (G45) (va_runV (As := []) (rest := []) ⟨hx, hb, hml, hown, hts⟩ k45 (cwV 0 hts (good_V w_ml_X8_159 w_im_X8_readCloud w_se_X8_readCloud w_in_X8 w_co_X8_readCloud) rfl rfl rfl ⟨rfl, hd_X8_readCloud⟩ ⟨Nat.le_of_ble_eq_true rfl, Nat.le_of_ble_eq_true rfl⟩) (pe_W (C := RX8) (T := TX8) (N := 14) (ci := 8) (q0 := 0) hP hE rfl rfl) rfl rfl hl.1 rfl (lv_room (Nat.le_of_ble_eq_true rfl)) dX8_readRevise_45 ⟨Nat.zero_le _, Nat.zero_le _⟩) hS (fun _ _ h => h) (fun _ h => h) (fun t locs hB hz hk hS => ?_)
            have hP : va_P D vwC (mW cs w (G45)) t.heap := hB
            have CUT : ∀ (x1 : Int32) (O9 : MS), (RI O9) → CX8_readRevise_48 M x1 O9 = v → ∀ (H : Heap) (locs : List Loc), va_P D vwC (mW cs w O9) H → va_S (mA w) s.heap H locs → ∀ ls : Array Slot, lv_has ls 2 [(0, .ref (w 0)), (1, .int x1)] → W p l e ({ frames := 4, cells := 0, slots := 0, locals := 95 } : Room) s m args below meth c H locs 0 0 (MQ below (va_Qv (fun u : MS => u = v) (fun u t => va_P D vwC (mW cs w u) t.heap) (mA w)) args s 0 0 (mA w)) (F0 m 48 ls []) := by
              clear hv
              intro x1 O9 i0 hv H locs hP hS ls hl
              unfold CX8_readRevise_48 at hv
              refine lv_aload_n hx hb dX8_readRevise_48 rfl (lv_at hl 0 rfl) ?_
              refine lv_aload_n hx hb dX8_readRevise_49 rfl (lv_at hl 0 rfl) ?_
              obtain ⟨G50, hG50⟩ : ∃ G, sX8_end O9 = G := ⟨_, rfl⟩
              have k50 := (c_X8_end l D cs w O9 hd i0)
              rw [hG50] at k50
              rw [hG50] at hv
              refine w_b (G50) (va_runV (As := []) (rest := [.ref (w 0)]) ⟨hx, hb, hml, hown, hts⟩ k50 (cwV 0 hts (good_V w_ml_X8_135 w_im_X8_end w_se_X8_end w_in_X8 w_co_X8_end) rfl rfl rfl ⟨rfl, hd_X8_end⟩ ⟨Nat.le_of_ble_eq_true rfl, Nat.le_of_ble_eq_true rfl⟩) (pe_W (C := RX8) (T := TX8) (N := 14) (ci := 8) (q0 := 0) hP hE rfl rfl) rfl rfl hl.1 rfl (lv_room (Nat.le_of_ble_eq_true rfl)) dX8_readRevise_50 ⟨Nat.zero_le _, Nat.zero_le _⟩) hS (fun _ _ h => h) (fun _ h => h) (fun t locs hB hz hk hS => ?_)
              have hP : va_P D vwC (mW cs w ((G50).2)) t.heap := hB
              have g1 : RI G50.2 := by rw [← hG50]; exact (PR_end i0).1
              refine join_i (J := 83) (ls := ls) (rest := [.ref (w 0)]) (b2i (if ((G50).1) = true then (if (sX8_hasSheet (((G50).2).1.2 3) x1) = true then (if (sX8_canRevise (((G50).2).1.2 3) x1) = true then true else false) else false) else false)) ?_ (fun hJ => ?_)
              · obtain ⟨G83, hG83⟩ : ∃ G, sX8_goes ((G50).2) (if ((G50).1) = true then (if (sX8_hasSheet (((G50).2).1.2 3) x1) = true then (if (sX8_canRevise (((G50).2).1.2 3) x1) = true then true else false) else false) else false) = G := ⟨_, rfl⟩
                have k83 := (c_X8_goes l D cs w ((G50).2) (if ((G50).1) = true then (if (sX8_hasSheet (((G50).2).1.2 3) x1) = true then (if (sX8_canRevise (((G50).2).1.2 3) x1) = true then true else false) else false) else false) hd)
                rw [hG83] at k83
                rw [hG83] at hv
                refine w_b (G83) (va_runV (As := [.int (b2i (if ((G50).1) = true then (if (sX8_hasSheet (((G50).2).1.2 3) x1) = true then (if (sX8_canRevise (((G50).2).1.2 3) x1) = true then true else false) else false) else false))]) (rest := []) ⟨hx, hb, hml, hown, hts⟩ k83 (cwV 1 hts (good_V w_ml_X8_146 w_im_X8_goes w_se_X8_goes w_in_X8 w_co_X8_goes) rfl rfl rfl ⟨rfl, hd_X8_goes⟩ ⟨Nat.le_of_ble_eq_true rfl, Nat.le_of_ble_eq_true rfl⟩) (pe_W (C := RX8) (T := TX8) (N := 14) (ci := 8) (q0 := 0) hP hE rfl rfl) rfl rfl hl.1 rfl (lv_room (Nat.le_of_ble_eq_true rfl)) dX8_readRevise_83 ⟨Nat.zero_le _, Nat.zero_le _⟩) hS (fun _ _ h => h) (fun _ h => h) (fun t locs hB hz hk hS => ?_)
                have hP : va_P D vwC (mW cs w ((G83).2)) t.heap := hB
                refine lv_if_eq (tgt := 102) hx hb dX8_readRevise_86 (by decide) (fun c86 => ?_) (fun c86 => ?_)
                · have c86 := b2i_f c86
                  have hv := (if_neg c86).symm.trans hv
                  exact W.vret hx hb hr (fun t ht hW => ⟨⟨((G83).2), rfl, hv, pw ht hP⟩, hS.F ht⟩) hS.2.2 dX8_readRevise_102 (hlocks := hlocks)
                · have c86 := b2i_t c86
                  have hv := (if_pos c86).symm.trans hv
                  have f1 := goes_t hG83 c86
                  have f2 := ra_t f1
                  refine lv_aload_n hx hb dX8_readRevise_89 rfl (lv_at hl 0 rfl) ?_
                  refine va_get (D := D) (ci := 8) (v := .ref (w 3)) (C := RX8) (T := TX8) (N := 14) hx hb hts iw_X8 hown hK hP 0 rfl rfl 3 (by decide) (hts _ w_fl_X8_16) (fun _ h9 => h9) rfl dX8_readRevise_90 ?_
                  refine lv_iload_n hx hb dX8_readRevise_93 rfl (lv_at hl 1 rfl) ?_
                  refine lv_aload_n hx hb dX8_readRevise_94 rfl (lv_at hl 0 rfl) ?_
                  refine va_get (D := D) (ci := 8) (v := .int (((G83).2).1.1 6)) (C := RX8) (T := TX8) (N := 14) hx hb hts iw_X8 hown hK hP 0 rfl rfl 13 (by decide) (hts _ w_fl_X8_153) (fun _ h9 => h9) rfl dX8_readRevise_95 ?_
                  obtain ⟨G98, hG98⟩ : ∃ G, sX8_goRevise (((G83).2).1.2 3) x1 (((G83).2).1.1 6) = G := ⟨_, rfl⟩
                  have k98 := (c_X8_goRevise l D cs (w 3) (((G83).2).1.2 3) x1 (((G83).2).1.1 6) (by rw [goes_r hG83]; exact g1.2) (by rw [goes_r hG83]; exact hasS_t g1.2.1.1 f2.1))
                  rw [hG98] at k98
                  rw [hG98] at hv
                  refine w_i (G98) (va_runS (As := [.ref (w 3), .int x1, .int (((G83).2).1.1 6)]) (rest := []) ⟨hx, hb, hml, hown, hts⟩ k98 (cwS 3 hts (good_S w_ml_X8_165 w_st_X8_goRevise w_in_X8 w_co_X8_goRevise) rfl rfl rfl ⟨rfl, hd_X8_goRevise⟩ ⟨Nat.le_of_ble_eq_true rfl, Nat.le_of_ble_eq_true rfl⟩) (pe_S (hP.sub (ws' := rowW cs (w 3) (((G83).2).1.2 3)) [3] rfl) hE) rfl rfl hl.1 rfl (lv_room (Nat.le_of_ble_eq_true rfl)) dX8_readRevise_98 ⟨Nat.zero_le _, Nat.zero_le _⟩) hS (fun _ _ h => ⟨3, by decide, h⟩) (fun _ h => ⟨3, by decide, h⟩) (fun t locs hB hz hk hS => ?_)
                  have hP : va_P D vwC (mW cs w (msA ((G83).2) 3 ((G98).2))) t.heap := m_up3 hd hP hk hB
                  refine lv_pop hx hb dX8_readRevise_101 rfl ?_
                  exact W.vret hx hb hr (fun t ht hW => ⟨⟨(msA ((G83).2) 3 ((G98).2)), rfl, hv, pw ht hP⟩, hS.F ht⟩) hS.2.2 dX8_readRevise_102 (hlocks := hlocks)
              · refine lv_if_eq (tgt := 82) hx hb dX8_readRevise_53 (by decide) (fun c53 => ?_) (fun c53 => ?_)
                · have c53 := b2i_f c53
                  refine lv_iconst (v := 0) hx hb dX8_readRevise_82 (by decide) ?_
                  exact hJ _ (congrArg b2i ((if_neg c53).trans rfl))
                · have c53 := b2i_t c53
                  refine lv_aload_n hx hb dX8_readRevise_56 rfl (lv_at hl 0 rfl) ?_
                  refine va_get (D := D) (ci := 8) (v := .ref (w 3)) (C := RX8) (T := TX8) (N := 14) hx hb hts iw_X8 hown hK hP 0 rfl rfl 3 (by decide) (hts _ w_fl_X8_16) (fun _ h9 => h9) rfl dX8_readRevise_57 ?_
                  refine lv_iload_n hx hb dX8_readRevise_60 rfl (lv_at hl 1 rfl) ?_
                  refine ro_i (b2i (sX8_hasSheet (((G50).2).1.2 3) x1)) (run_c (va_runS (As := [.ref (w 3), .int x1]) (rest := [.ref (w 0)]) ⟨hx, hb, hml, hown, hts⟩ (c_X8_hasSheet l D cs (w 3) (((G50).2).1.2 3) x1) (cwS 2 hts (good_S w_ml_X8_139 w_st_X8_hasSheet w_in_X8 w_co_X8_hasSheet) rfl rfl rfl ⟨rfl, hd_X8_hasSheet⟩ ⟨Nat.le_of_ble_eq_true rfl, Nat.le_of_ble_eq_true rfl⟩) (pe_S (hP.sub (ws' := rowW cs (w 3) (((G50).2).1.2 3)) [3] rfl) hE) rfl rfl hl.1 rfl (lv_room (Nat.le_of_ble_eq_true rfl)) dX8_readRevise_61 ⟨Nat.zero_le _, Nat.zero_le _⟩)) ?_
                  refine lv_if_eq (tgt := 82) hx hb dX8_readRevise_64 (by decide) (fun c64 => ?_) (fun c64 => ?_)
                  · have c64 := b2i_f c64
                    refine lv_iconst (v := 0) hx hb dX8_readRevise_82 (by decide) ?_
                    exact hJ _ (congrArg b2i ((if_pos c53).trans ((if_neg c64).trans rfl)))
                  · have c64 := b2i_t c64
                    refine lv_aload_n hx hb dX8_readRevise_67 rfl (lv_at hl 0 rfl) ?_
                    refine va_get (D := D) (ci := 8) (v := .ref (w 3)) (C := RX8) (T := TX8) (N := 14) hx hb hts iw_X8 hown hK hP 0 rfl rfl 3 (by decide) (hts _ w_fl_X8_16) (fun _ h9 => h9) rfl dX8_readRevise_68 ?_
                    refine lv_iload_n hx hb dX8_readRevise_71 rfl (lv_at hl 1 rfl) ?_
                    refine ro_i (b2i (sX8_canRevise (((G50).2).1.2 3) x1)) (run_c (va_runS (As := [.ref (w 3), .int x1]) (rest := [.ref (w 0)]) ⟨hx, hb, hml, hown, hts⟩ (c_X8_canRevise l D cs (w 3) (((G50).2).1.2 3) x1 ((hasS_t g1.2.1.1 c64).v g1.2)) (cwS 2 hts (good_S w_ml_X8_162 w_st_X8_canRevise w_in_X8 w_co_X8_canRevise) rfl rfl rfl ⟨rfl, hd_X8_canRevise⟩ ⟨Nat.le_of_ble_eq_true rfl, Nat.le_of_ble_eq_true rfl⟩) (pe_S (hP.sub (ws' := rowW cs (w 3) (((G50).2).1.2 3)) [3] rfl) hE) rfl rfl hl.1 rfl (lv_room (Nat.le_of_ble_eq_true rfl)) dX8_readRevise_72 ⟨Nat.zero_le _, Nat.zero_le _⟩)) ?_
                    refine lv_if_eq (tgt := 82) hx hb dX8_readRevise_75 (by decide) (fun c75 => ?_) (fun c75 => ?_)
                    · have c75 := b2i_f c75
                      refine lv_iconst (v := 0) hx hb dX8_readRevise_82 (by decide) ?_
                      exact hJ _ (congrArg b2i ((if_pos c53).trans ((if_pos c64).trans ((if_neg c75).trans rfl))))
                    · have c75 := b2i_t c75
                      refine lv_iconst (v := 1) hx hb dX8_readRevise_78 (by decide) ?_
                      refine lv_goto (tgt := 83) hx hb dX8_readRevise_79 (by decide) ?_
                      exact hJ _ (congrArg b2i ((if_pos c53).trans ((if_pos c64).trans ((if_pos c75).trans rfl))))
            exact CUT x1 (G45) (by rw [← hG45]; exact (PR_readCloud i0).1) hv _ _ hP hS ls (lv_sub hl [0, 1] rfl)
          exact CUT x1 (G41) (by rw [← hG41]; exact (PR_th i0 (by decide)).1) hv _ _ hP hS ls (lv_sub hl [0, 1] rfl)
        · refine lv_icmp_ne (tgt := 40) hx hb dX8_readRevise_33 (by decide) (fun c33 => ?_) (fun c33 => ?_)
          · refine lv_iconst (v := 0) hx hb dX8_readRevise_40 (by decide) ?_
            exact hJ _ (congrArg b2i ((if_neg c33).trans rfl))
          · refine lv_iconst (v := 1) hx hb dX8_readRevise_36 (by decide) ?_
            refine lv_goto (tgt := 41) hx hb dX8_readRevise_37 (by decide) ?_
            exact hJ _ (congrArg b2i ((if_pos c33).trans rfl))
      exact CUT ((G22).1) ((G22).2) (by rw [← hG22]; exact (PR_digit i0 (by decide)).1) hv _ _ hP hS ls (lv_sub hl [1, 0] rfl)
    exact CUT (G15) (by rw [← hG15]; exact (PR_th hri (by decide)).1) hv _ _ hP hS ls (lv_sub hl [0] rfl)
  · refine lv_icmp_ne (tgt := 14) hx hb dX8_readRevise_7 (by decide) (fun c7 => ?_) (fun c7 => ?_)
    · refine lv_iconst (v := 0) hx hb dX8_readRevise_14 (by decide) ?_
      exact hJ _ (congrArg b2i ((if_neg c7).trans rfl))
    · refine lv_iconst (v := 1) hx hb dX8_readRevise_10 (by decide) ?_
      refine lv_goto (tgt := 15) hx hb dX8_readRevise_11 (by decide) ?_
      exact hJ _ (congrArg b2i ((if_pos c7).trans rfl))
theorem PR_readRevise {M : MS} (h : RI M) : PR M (sX8_readRevise M) := by
  have k48 : ∀ x1 O9, RI O9 → PR O9 (CX8_readRevise_48 M x1 O9) := by
    intro x1 O9 h
    unfold CX8_readRevise_48
    have e := PR_end h
    refine pr_if (fun c => ?_) (fun _ => e.tr (PR_goes e.1))
    have f2 := ra_t (goes_t rfl c)
    refine (e.tr (PR_goes e.1)).tr (PR_row (PR_goes e.1).1 ?_)
    rw [goes_r rfl]
    exact MV_revise _ e.1.2 (hasS_t e.1.2.1.1 f2.1)
  have k44 : ∀ x1 O9, RI O9 → PR O9 (CX8_readRevise_44 M x1 O9) := by
    intro x1 O9 h
    unfold CX8_readRevise_44
    exact (PR_readCloud h).th (k48 _ _)
  have k26 : ∀ x1 O9, RI O9 → PR O9 (CX8_readRevise_26 M x1 O9) := by
    intro x1 O9 h
    unfold CX8_readRevise_26
    exact (PR_th h (by decide)).th (k44 _ _)
  have k18 : ∀ O9, RI O9 → PR O9 (CX8_readRevise_18 M O9) := by
    intro O9 h
    unfold CX8_readRevise_18
    exact (PR_digit h (by decide)).th (k26 _ _)
  unfold sX8_readRevise
  exact (PR_th h (by decide)).th (k18 _)
theorem hd_X8_readRun : yX8_readRun.cls ≠ "java/lang/invoke/MethodHandle" ∧ yX8_readRun.cls ≠ "java/lang/invoke/VarHandle" ∧ (parseMethodDescriptor yX8_readRun.desc).map (fun d => d.parameters.length) = some 0 := by decide +kernel
def CX8_readRun_26 (M : MS) (x1 : Int32) (O9 : MS) : MS := (if (((sX8_goes (((sX8_end O9)).2) (((sX8_end O9)).1))).1) = true then (msA (((sX8_goes (((sX8_end O9)).2) (((sX8_end O9)).1))).2) 3 (((sX8_goRun ((((sX8_goes (((sX8_end O9)).2) (((sX8_end O9)).1))).2).1.2 3) x1)).2)) else (((sX8_goes (((sX8_end O9)).2) (((sX8_end O9)).1))).2))
def CX8_readRun_18 (M : MS) (O9 : MS) : MS := (CX8_readRun_26 M (((sX8_number O9 1 30)).1) (((sX8_number O9 1 30)).2))
def sX8_readRun (M : MS) : MS := (CX8_readRun_18 M ((sX8_take M (if (sX8_here M) = 110 then true else false))))
set_option maxHeartbeats 4000000 in
set_option maxRecDepth 100000 in
theorem c_X8_readRun (l : Launch) (D : va_G) (cs : Nat → ClassId) (w : Nat → Nat) (M : MS) (hd : mD w) (hri : RI M) : Met l yX8_readRun (wc yX8_readRun cX8_readRun 2 none) ({ frames := 5, cells := 0, slots := 0, locals := 110 } : Room) (va_Pc [.ref (w 0)] (PE D cs (mW cs w M))) (va_Qv (fun u : MS => u = (sX8_readRun M)) (fun u t => va_P D vwC (mW cs w u) t.heap) (mA w)) 0 0 (mA w) := by
  obtain ⟨v, hv⟩ : ∃ v, sX8_readRun M = v := ⟨_, rfl⟩
  rw [hv]
  refine met_o (lv := [(0, .ref (w 0))]) (by decide) (Nat.le_of_ble_eq_true rfl) rfl ?_
  intro p e s m args below meth c ls hx hb hr hml hts hown hlocks hin hP hE hl
  have hown : s.vm.findClass RX8 = some m.cls := hown
  have hK := hE.1
  have hP : va_P D vwC (mW cs w M) s.heap := hP
  have hS : va_S (mA w) s.heap s.heap [] := va_S.rf
  unfold sX8_readRun at hv
  refine lv_aload_n hx hb dX8_readRun_0 rfl (lv_at hl 0 rfl) ?_
  refine lv_aload_n hx hb dX8_readRun_1 rfl (lv_at hl 0 rfl) ?_
  refine ro_i (sX8_here M) (run_c (va_runV (As := []) (rest := [.ref (w 0)]) ⟨hx, hb, hml, hown, hts⟩ (c_X8_here l D cs w M hri) (cwV 0 hts (good_V w_ml_X8_116 w_im_X8_here w_se_X8_here w_in_X8 w_co_X8_here) rfl rfl rfl ⟨rfl, hd_X8_here⟩ ⟨Nat.le_of_ble_eq_true rfl, Nat.le_of_ble_eq_true rfl⟩) (pe_W (C := RX8) (T := TX8) (N := 14) (ci := 8) (q0 := 0) hP hE rfl rfl) rfl rfl hl.1 rfl (lv_room (Nat.le_of_ble_eq_true rfl)) dX8_readRun_2 ⟨Nat.zero_le _, Nat.zero_le _⟩)) ?_
  refine lv_bipush (v := 110) hx hb dX8_readRun_5 (by decide) ?_
  refine join_i (J := 15) (ls := ls) (rest := [.ref (w 0)]) (b2i (if (sX8_here M) = 110 then true else false)) ?_ (fun hJ => ?_)
  · obtain ⟨G15, hG15⟩ : ∃ G, sX8_take M (if (sX8_here M) = 110 then true else false) = G := ⟨_, rfl⟩
    have k15 := (c_X8_take l D cs w M (if (sX8_here M) = 110 then true else false) hd)
    rw [hG15] at k15
    rw [hG15] at hv
    refine w_v (G15) (va_runV (As := [.int (b2i (if (sX8_here M) = 110 then true else false))]) (rest := []) ⟨hx, hb, hml, hown, hts⟩ k15 (cwV 1 hts (good_V w_ml_X8_120 w_im_X8_take w_se_X8_take w_in_X8 w_co_X8_take) rfl rfl rfl ⟨rfl, hd_X8_take⟩ ⟨Nat.le_of_ble_eq_true rfl, Nat.le_of_ble_eq_true rfl⟩) (pe_W (C := RX8) (T := TX8) (N := 14) (ci := 8) (q0 := 0) hP hE rfl rfl) rfl rfl hl.1 rfl (lv_room (Nat.le_of_ble_eq_true rfl)) dX8_readRun_15 ⟨Nat.zero_le _, Nat.zero_le _⟩) hS (fun _ _ h => h) (fun _ h => h) (fun t locs hB hz hk hS => ?_)
    have hP : va_P D vwC (mW cs w (G15)) t.heap := hB
    have CUT : ∀ (O9 : MS), (RI O9) → CX8_readRun_18 M O9 = v → ∀ (H : Heap) (locs : List Loc), va_P D vwC (mW cs w O9) H → va_S (mA w) s.heap H locs → ∀ ls : Array Slot, lv_has ls 2 [(0, .ref (w 0))] → W p l e ({ frames := 5, cells := 0, slots := 0, locals := 110 } : Room) s m args below meth c H locs 0 0 (MQ below (va_Qv (fun u : MS => u = v) (fun u t => va_P D vwC (mW cs w u) t.heap) (mA w)) args s 0 0 (mA w)) (F0 m 18 ls []) := by
      clear hv
      intro O9 i0 hv H locs hP hS ls hl
      unfold CX8_readRun_18 at hv
      refine lv_aload_n hx hb dX8_readRun_18 rfl (lv_at hl 0 rfl) ?_
      refine lv_iconst (v := 1) hx hb dX8_readRun_19 (by decide) ?_
      refine lv_bipush (v := 30) hx hb dX8_readRun_20 (by decide) ?_
      obtain ⟨G22, hG22⟩ : ∃ G, sX8_number O9 1 30 = G := ⟨_, rfl⟩
      have k22 := (c_X8_number l D cs w O9 1 30 hd i0 (by decide))
      rw [hG22] at k22
      rw [hG22] at hv
      refine w_i (G22) (va_runV (As := [.int 1, .int 30]) (rest := []) ⟨hx, hb, hml, hown, hts⟩ k22 (cwV 2 hts (good_V w_ml_X8_156 w_im_X8_number w_se_X8_number w_in_X8 w_co_X8_number) rfl rfl rfl ⟨rfl, hd_X8_number⟩ ⟨Nat.le_of_ble_eq_true rfl, Nat.le_of_ble_eq_true rfl⟩) (pe_W (C := RX8) (T := TX8) (N := 14) (ci := 8) (q0 := 0) hP hE rfl rfl) rfl rfl hl.1 rfl (lv_room (Nat.le_of_ble_eq_true rfl)) dX8_readRun_22 ⟨Nat.zero_le _, Nat.zero_le _⟩) hS (fun _ _ h => h) (fun _ h => h) (fun t locs hB hz hk hS => ?_)
      have hP : va_P D vwC (mW cs w ((G22).2)) t.heap := hB
      refine lv_istore_n (lv' := [(1, .int ((G22).1)), (0, .ref (w 0))]) hx hb dX8_readRun_25 rfl hl (by decide) rfl (fun ls hl => ?_)
      have CUT : ∀ (x1 : Int32) (O9 : MS), (RI O9) → CX8_readRun_26 M x1 O9 = v → ∀ (H : Heap) (locs : List Loc), va_P D vwC (mW cs w O9) H → va_S (mA w) s.heap H locs → ∀ ls : Array Slot, lv_has ls 2 [(0, .ref (w 0)), (1, .int x1)] → W p l e ({ frames := 5, cells := 0, slots := 0, locals := 110 } : Room) s m args below meth c H locs 0 0 (MQ below (va_Qv (fun u : MS => u = v) (fun u t => va_P D vwC (mW cs w u) t.heap) (mA w)) args s 0 0 (mA w)) (F0 m 26 ls []) := by
        clear hv
        intro x1 O9 i0 hv H locs hP hS ls hl
        unfold CX8_readRun_26 at hv
        refine lv_aload_n hx hb dX8_readRun_26 rfl (lv_at hl 0 rfl) ?_
        refine lv_aload_n hx hb dX8_readRun_27 rfl (lv_at hl 0 rfl) ?_
        obtain ⟨G28, hG28⟩ : ∃ G, sX8_end O9 = G := ⟨_, rfl⟩
        have k28 := (c_X8_end l D cs w O9 hd i0)
        rw [hG28] at k28
        rw [hG28] at hv
        refine w_b (G28) (va_runV (As := []) (rest := [.ref (w 0)]) ⟨hx, hb, hml, hown, hts⟩ k28 (cwV 0 hts (good_V w_ml_X8_135 w_im_X8_end w_se_X8_end w_in_X8 w_co_X8_end) rfl rfl rfl ⟨rfl, hd_X8_end⟩ ⟨Nat.le_of_ble_eq_true rfl, Nat.le_of_ble_eq_true rfl⟩) (pe_W (C := RX8) (T := TX8) (N := 14) (ci := 8) (q0 := 0) hP hE rfl rfl) rfl rfl hl.1 rfl (lv_room (Nat.le_of_ble_eq_true rfl)) dX8_readRun_28 ⟨Nat.zero_le _, Nat.zero_le _⟩) hS (fun _ _ h => h) (fun _ h => h) (fun t locs hB hz hk hS => ?_)
        have hP : va_P D vwC (mW cs w ((G28).2)) t.heap := hB
        have g1 : RI G28.2 := by rw [← hG28]; exact (PR_end i0).1
        obtain ⟨G31, hG31⟩ : ∃ G, sX8_goes ((G28).2) ((G28).1) = G := ⟨_, rfl⟩
        have k31 := (c_X8_goes l D cs w ((G28).2) ((G28).1) hd)
        rw [hG31] at k31
        rw [hG31] at hv
        refine w_b (G31) (va_runV (As := [.int (b2i ((G28).1))]) (rest := []) ⟨hx, hb, hml, hown, hts⟩ k31 (cwV 1 hts (good_V w_ml_X8_146 w_im_X8_goes w_se_X8_goes w_in_X8 w_co_X8_goes) rfl rfl rfl ⟨rfl, hd_X8_goes⟩ ⟨Nat.le_of_ble_eq_true rfl, Nat.le_of_ble_eq_true rfl⟩) (pe_W (C := RX8) (T := TX8) (N := 14) (ci := 8) (q0 := 0) hP hE rfl rfl) rfl rfl hl.1 rfl (lv_room (Nat.le_of_ble_eq_true rfl)) dX8_readRun_31 ⟨Nat.zero_le _, Nat.zero_le _⟩) hS (fun _ _ h => h) (fun _ h => h) (fun t locs hB hz hk hS => ?_)
        have hP : va_P D vwC (mW cs w ((G31).2)) t.heap := hB
        refine lv_if_eq (tgt := 46) hx hb dX8_readRun_34 (by decide) (fun c34 => ?_) (fun c34 => ?_)
        · have c34 := b2i_f c34
          have hv := (if_neg c34).symm.trans hv
          exact W.vret hx hb hr (fun t ht hW => ⟨⟨((G31).2), rfl, hv, pw ht hP⟩, hS.F ht⟩) hS.2.2 dX8_readRun_46 (hlocks := hlocks)
        · have c34 := b2i_t c34
          have hv := (if_pos c34).symm.trans hv
          refine lv_aload_n hx hb dX8_readRun_37 rfl (lv_at hl 0 rfl) ?_
          refine va_get (D := D) (ci := 8) (v := .ref (w 3)) (C := RX8) (T := TX8) (N := 14) hx hb hts iw_X8 hown hK hP 0 rfl rfl 3 (by decide) (hts _ w_fl_X8_16) (fun _ h9 => h9) rfl dX8_readRun_38 ?_
          refine lv_iload_n hx hb dX8_readRun_41 rfl (lv_at hl 1 rfl) ?_
          obtain ⟨G42, hG42⟩ : ∃ G, sX8_goRun (((G31).2).1.2 3) x1 = G := ⟨_, rfl⟩
          have k42 := (c_X8_goRun l D cs (w 3) (((G31).2).1.2 3) x1 (by rw [goes_r hG31]; exact g1.2.2.1.2))
          rw [hG42] at k42
          rw [hG42] at hv
          refine w_i (G42) (va_runS (As := [.ref (w 3), .int x1]) (rest := []) ⟨hx, hb, hml, hown, hts⟩ k42 (cwS 2 hts (good_S w_ml_X8_169 w_st_X8_goRun w_in_X8 w_co_X8_goRun) rfl rfl rfl ⟨rfl, hd_X8_goRun⟩ ⟨Nat.le_of_ble_eq_true rfl, Nat.le_of_ble_eq_true rfl⟩) (pe_S (hP.sub (ws' := rowW cs (w 3) (((G31).2).1.2 3)) [3] rfl) hE) rfl rfl hl.1 rfl (lv_room (Nat.le_of_ble_eq_true rfl)) dX8_readRun_42 ⟨Nat.zero_le _, Nat.zero_le _⟩) hS (fun _ _ h => ⟨3, by decide, h⟩) (fun _ h => ⟨3, by decide, h⟩) (fun t locs hB hz hk hS => ?_)
          have hP : va_P D vwC (mW cs w (msA ((G31).2) 3 ((G42).2))) t.heap := m_up3 hd hP hk hB
          refine lv_pop hx hb dX8_readRun_45 rfl ?_
          exact W.vret hx hb hr (fun t ht hW => ⟨⟨(msA ((G31).2) 3 ((G42).2)), rfl, hv, pw ht hP⟩, hS.F ht⟩) hS.2.2 dX8_readRun_46 (hlocks := hlocks)
      exact CUT ((G22).1) ((G22).2) (by rw [← hG22]; exact (PR_number i0 (by decide)).1) hv _ _ hP hS ls (lv_sub hl [1, 0] rfl)
    exact CUT (G15) (by rw [← hG15]; exact (PR_th hri (by decide)).1) hv _ _ hP hS ls (lv_sub hl [0] rfl)
  · refine lv_icmp_ne (tgt := 14) hx hb dX8_readRun_7 (by decide) (fun c7 => ?_) (fun c7 => ?_)
    · refine lv_iconst (v := 0) hx hb dX8_readRun_14 (by decide) ?_
      exact hJ _ (congrArg b2i ((if_neg c7).trans rfl))
    · refine lv_iconst (v := 1) hx hb dX8_readRun_10 (by decide) ?_
      refine lv_goto (tgt := 15) hx hb dX8_readRun_11 (by decide) ?_
      exact hJ _ (congrArg b2i ((if_pos c7).trans rfl))
theorem PR_readRun {M : MS} (h : RI M) : PR M (sX8_readRun M) := by
  have k26 : ∀ x1 O9, RI O9 → PR O9 (CX8_readRun_26 M x1 O9) := by
    intro x1 O9 h
    unfold CX8_readRun_26
    have e := PR_end h
    refine pr_if (fun c => ?_) (fun _ => e.tr (PR_goes e.1))
    refine (e.tr (PR_goes e.1)).tr (PR_row (PR_goes e.1).1 ?_)
    rw [goes_r rfl]
    exact MV_run _ e.1.2
  have k18 : ∀ O9, RI O9 → PR O9 (CX8_readRun_18 M O9) := by
    intro O9 h
    unfold CX8_readRun_18
    exact (PR_number h (by decide)).th (k26 _ _)
  unfold sX8_readRun
  exact (PR_th h (by decide)).th (k18 _)
theorem hd_X8_readPrint : yX8_readPrint.cls ≠ "java/lang/invoke/MethodHandle" ∧ yX8_readPrint.cls ≠ "java/lang/invoke/VarHandle" ∧ (parseMethodDescriptor yX8_readPrint.desc).map (fun d => d.parameters.length) = some 0 := by decide +kernel
def CX8_readPrint_123 (M : MS) (x1 : Int32) (x2 : Int32) (O9 : MS) : MS := (if (((sX8_goes (((sX8_end O9)).2) (if (((sX8_end O9)).1) = true then (if (sX8_hasSheet ((((sX8_end O9)).2).1.2 3) x1) = true then (if (sX8_canPrint ((((sX8_end O9)).2).1.2 3)) = true then true else false) else false) else false))).1) = true then (msA (((sX8_goes (((sX8_end O9)).2) (if (((sX8_end O9)).1) = true then (if (sX8_hasSheet ((((sX8_end O9)).2).1.2 3) x1) = true then (if (sX8_canPrint ((((sX8_end O9)).2).1.2 3)) = true then true else false) else false) else false))).2) 3 (((sX8_goPrint ((((sX8_goes (((sX8_end O9)).2) (if (((sX8_end O9)).1) = true then (if (sX8_hasSheet ((((sX8_end O9)).2).1.2 3) x1) = true then (if (sX8_canPrint ((((sX8_end O9)).2).1.2 3)) = true then true else false) else false) else false))).2).1.2 3) x1 x2)).2)) else (((sX8_goes (((sX8_end O9)).2) (if (((sX8_end O9)).1) = true then (if (sX8_hasSheet ((((sX8_end O9)).2).1.2 3) x1) = true then (if (sX8_canPrint ((((sX8_end O9)).2).1.2 3)) = true then true else false) else false) else false))).2))
def CX8_readPrint_116 (M : MS) (x1 : Int32) (O9 : MS) : MS := (CX8_readPrint_123 M x1 (((sX8_digit O9 0 3)).1) (((sX8_digit O9 0 3)).2))
def CX8_readPrint_98 (M : MS) (x1 : Int32) (O9 : MS) : MS := (CX8_readPrint_116 M x1 ((sX8_take O9 (if (sX8_here O9) = 64 then true else false))))
def CX8_readPrint_90 (M : MS) (O9 : MS) : MS := (CX8_readPrint_98 M (((sX8_digit O9 0 9)).1) (((sX8_digit O9 0 9)).2))
def CX8_readPrint_72 (M : MS) (O9 : MS) : MS := (CX8_readPrint_90 M ((sX8_take O9 (if (sX8_here O9) = 116 then true else false))))
def CX8_readPrint_54 (M : MS) (O9 : MS) : MS := (CX8_readPrint_72 M ((sX8_take O9 (if (sX8_here O9) = 110 then true else false))))
def CX8_readPrint_36 (M : MS) (O9 : MS) : MS := (CX8_readPrint_54 M ((sX8_take O9 (if (sX8_here O9) = 105 then true else false))))
def CX8_readPrint_18 (M : MS) (O9 : MS) : MS := (CX8_readPrint_36 M ((sX8_take O9 (if (sX8_here O9) = 114 then true else false))))
def sX8_readPrint (M : MS) : MS := (CX8_readPrint_18 M ((sX8_take M (if (sX8_here M) = 112 then true else false))))
set_option maxHeartbeats 4000000 in
set_option maxRecDepth 100000 in
theorem c_X8_readPrint (l : Launch) (D : va_G) (cs : Nat → ClassId) (w : Nat → Nat) (M : MS) (hd : mD w) (hri : RI M) : Met l yX8_readPrint (wc yX8_readPrint cX8_readPrint 3 none) ({ frames := 2, cells := 0, slots := 0, locals := 48 } : Room) (va_Pc [.ref (w 0)] (PE D cs (mW cs w M))) (va_Qv (fun u : MS => u = (sX8_readPrint M)) (fun u t => va_P D vwC (mW cs w u) t.heap) (mA w)) 0 0 (mA w) := by
  obtain ⟨v, hv⟩ : ∃ v, sX8_readPrint M = v := ⟨_, rfl⟩
  rw [hv]
  refine met_o (lv := [(0, .ref (w 0))]) (by decide) (Nat.le_of_ble_eq_true rfl) rfl ?_
  intro p e s m args below meth c ls hx hb hr hml hts hown hlocks hin hP hE hl
  have hown : s.vm.findClass RX8 = some m.cls := hown
  have hK := hE.1
  have hP : va_P D vwC (mW cs w M) s.heap := hP
  have hS : va_S (mA w) s.heap s.heap [] := va_S.rf
  unfold sX8_readPrint at hv
  refine lv_aload_n hx hb dX8_readPrint_0 rfl (lv_at hl 0 rfl) ?_
  refine lv_aload_n hx hb dX8_readPrint_1 rfl (lv_at hl 0 rfl) ?_
  refine ro_i (sX8_here M) (run_c (va_runV (As := []) (rest := [.ref (w 0)]) ⟨hx, hb, hml, hown, hts⟩ (c_X8_here l D cs w M hri) (cwV 0 hts (good_V w_ml_X8_116 w_im_X8_here w_se_X8_here w_in_X8 w_co_X8_here) rfl rfl rfl ⟨rfl, hd_X8_here⟩ ⟨Nat.le_of_ble_eq_true rfl, Nat.le_of_ble_eq_true rfl⟩) (pe_W (C := RX8) (T := TX8) (N := 14) (ci := 8) (q0 := 0) hP hE rfl rfl) rfl rfl hl.1 rfl (lv_room (Nat.le_of_ble_eq_true rfl)) dX8_readPrint_2 ⟨Nat.zero_le _, Nat.zero_le _⟩)) ?_
  refine lv_bipush (v := 112) hx hb dX8_readPrint_5 (by decide) ?_
  refine join_i (J := 15) (ls := ls) (rest := [.ref (w 0)]) (b2i (if (sX8_here M) = 112 then true else false)) ?_ (fun hJ => ?_)
  · obtain ⟨G15, hG15⟩ : ∃ G, sX8_take M (if (sX8_here M) = 112 then true else false) = G := ⟨_, rfl⟩
    have k15 := (c_X8_take l D cs w M (if (sX8_here M) = 112 then true else false) hd)
    rw [hG15] at k15
    rw [hG15] at hv
    refine w_v (G15) (va_runV (As := [.int (b2i (if (sX8_here M) = 112 then true else false))]) (rest := []) ⟨hx, hb, hml, hown, hts⟩ k15 (cwV 1 hts (good_V w_ml_X8_120 w_im_X8_take w_se_X8_take w_in_X8 w_co_X8_take) rfl rfl rfl ⟨rfl, hd_X8_take⟩ ⟨Nat.le_of_ble_eq_true rfl, Nat.le_of_ble_eq_true rfl⟩) (pe_W (C := RX8) (T := TX8) (N := 14) (ci := 8) (q0 := 0) hP hE rfl rfl) rfl rfl hl.1 rfl (lv_room (Nat.le_of_ble_eq_true rfl)) dX8_readPrint_15 ⟨Nat.zero_le _, Nat.zero_le _⟩) hS (fun _ _ h => h) (fun _ h => h) (fun t locs hB hz hk hS => ?_)
    have hP : va_P D vwC (mW cs w (G15)) t.heap := hB
    have CUT : ∀ (O9 : MS), (RI O9) → CX8_readPrint_18 M O9 = v → ∀ (H : Heap) (locs : List Loc), va_P D vwC (mW cs w O9) H → va_S (mA w) s.heap H locs → ∀ ls : Array Slot, lv_has ls 3 [(0, .ref (w 0))] → W p l e ({ frames := 2, cells := 0, slots := 0, locals := 48 } : Room) s m args below meth c H locs 0 0 (MQ below (va_Qv (fun u : MS => u = v) (fun u t => va_P D vwC (mW cs w u) t.heap) (mA w)) args s 0 0 (mA w)) (F0 m 18 ls []) := by
      clear hv
      intro O9 i0 hv H locs hP hS ls hl
      unfold CX8_readPrint_18 at hv
      refine lv_aload_n hx hb dX8_readPrint_18 rfl (lv_at hl 0 rfl) ?_
      refine lv_aload_n hx hb dX8_readPrint_19 rfl (lv_at hl 0 rfl) ?_
      refine ro_i (sX8_here O9) (run_c (va_runV (As := []) (rest := [.ref (w 0)]) ⟨hx, hb, hml, hown, hts⟩ (c_X8_here l D cs w O9 i0) (cwV 0 hts (good_V w_ml_X8_116 w_im_X8_here w_se_X8_here w_in_X8 w_co_X8_here) rfl rfl rfl ⟨rfl, hd_X8_here⟩ ⟨Nat.le_of_ble_eq_true rfl, Nat.le_of_ble_eq_true rfl⟩) (pe_W (C := RX8) (T := TX8) (N := 14) (ci := 8) (q0 := 0) hP hE rfl rfl) rfl rfl hl.1 rfl (lv_room (Nat.le_of_ble_eq_true rfl)) dX8_readPrint_20 ⟨Nat.zero_le _, Nat.zero_le _⟩)) ?_
      refine lv_bipush (v := 114) hx hb dX8_readPrint_23 (by decide) ?_
      refine join_i (J := 33) (ls := ls) (rest := [.ref (w 0)]) (b2i (if (sX8_here O9) = 114 then true else false)) ?_ (fun hJ => ?_)
      · obtain ⟨G33, hG33⟩ : ∃ G, sX8_take O9 (if (sX8_here O9) = 114 then true else false) = G := ⟨_, rfl⟩
        have k33 := (c_X8_take l D cs w O9 (if (sX8_here O9) = 114 then true else false) hd)
        rw [hG33] at k33
        rw [hG33] at hv
        refine w_v (G33) (va_runV (As := [.int (b2i (if (sX8_here O9) = 114 then true else false))]) (rest := []) ⟨hx, hb, hml, hown, hts⟩ k33 (cwV 1 hts (good_V w_ml_X8_120 w_im_X8_take w_se_X8_take w_in_X8 w_co_X8_take) rfl rfl rfl ⟨rfl, hd_X8_take⟩ ⟨Nat.le_of_ble_eq_true rfl, Nat.le_of_ble_eq_true rfl⟩) (pe_W (C := RX8) (T := TX8) (N := 14) (ci := 8) (q0 := 0) hP hE rfl rfl) rfl rfl hl.1 rfl (lv_room (Nat.le_of_ble_eq_true rfl)) dX8_readPrint_33 ⟨Nat.zero_le _, Nat.zero_le _⟩) hS (fun _ _ h => h) (fun _ h => h) (fun t locs hB hz hk hS => ?_)
        have hP : va_P D vwC (mW cs w (G33)) t.heap := hB
        have CUT : ∀ (O9 : MS), (RI O9) → CX8_readPrint_36 M O9 = v → ∀ (H : Heap) (locs : List Loc), va_P D vwC (mW cs w O9) H → va_S (mA w) s.heap H locs → ∀ ls : Array Slot, lv_has ls 3 [(0, .ref (w 0))] → W p l e ({ frames := 2, cells := 0, slots := 0, locals := 48 } : Room) s m args below meth c H locs 0 0 (MQ below (va_Qv (fun u : MS => u = v) (fun u t => va_P D vwC (mW cs w u) t.heap) (mA w)) args s 0 0 (mA w)) (F0 m 36 ls []) := by
          clear hv
          intro O9 i0 hv H locs hP hS ls hl
          unfold CX8_readPrint_36 at hv
          refine lv_aload_n hx hb dX8_readPrint_36 rfl (lv_at hl 0 rfl) ?_
          refine lv_aload_n hx hb dX8_readPrint_37 rfl (lv_at hl 0 rfl) ?_
          refine ro_i (sX8_here O9) (run_c (va_runV (As := []) (rest := [.ref (w 0)]) ⟨hx, hb, hml, hown, hts⟩ (c_X8_here l D cs w O9 i0) (cwV 0 hts (good_V w_ml_X8_116 w_im_X8_here w_se_X8_here w_in_X8 w_co_X8_here) rfl rfl rfl ⟨rfl, hd_X8_here⟩ ⟨Nat.le_of_ble_eq_true rfl, Nat.le_of_ble_eq_true rfl⟩) (pe_W (C := RX8) (T := TX8) (N := 14) (ci := 8) (q0 := 0) hP hE rfl rfl) rfl rfl hl.1 rfl (lv_room (Nat.le_of_ble_eq_true rfl)) dX8_readPrint_38 ⟨Nat.zero_le _, Nat.zero_le _⟩)) ?_
          refine lv_bipush (v := 105) hx hb dX8_readPrint_41 (by decide) ?_
          refine join_i (J := 51) (ls := ls) (rest := [.ref (w 0)]) (b2i (if (sX8_here O9) = 105 then true else false)) ?_ (fun hJ => ?_)
          · obtain ⟨G51, hG51⟩ : ∃ G, sX8_take O9 (if (sX8_here O9) = 105 then true else false) = G := ⟨_, rfl⟩
            have k51 := (c_X8_take l D cs w O9 (if (sX8_here O9) = 105 then true else false) hd)
            rw [hG51] at k51
            rw [hG51] at hv
            refine w_v (G51) (va_runV (As := [.int (b2i (if (sX8_here O9) = 105 then true else false))]) (rest := []) ⟨hx, hb, hml, hown, hts⟩ k51 (cwV 1 hts (good_V w_ml_X8_120 w_im_X8_take w_se_X8_take w_in_X8 w_co_X8_take) rfl rfl rfl ⟨rfl, hd_X8_take⟩ ⟨Nat.le_of_ble_eq_true rfl, Nat.le_of_ble_eq_true rfl⟩) (pe_W (C := RX8) (T := TX8) (N := 14) (ci := 8) (q0 := 0) hP hE rfl rfl) rfl rfl hl.1 rfl (lv_room (Nat.le_of_ble_eq_true rfl)) dX8_readPrint_51 ⟨Nat.zero_le _, Nat.zero_le _⟩) hS (fun _ _ h => h) (fun _ h => h) (fun t locs hB hz hk hS => ?_)
            have hP : va_P D vwC (mW cs w (G51)) t.heap := hB
            have CUT : ∀ (O9 : MS), (RI O9) → CX8_readPrint_54 M O9 = v → ∀ (H : Heap) (locs : List Loc), va_P D vwC (mW cs w O9) H → va_S (mA w) s.heap H locs → ∀ ls : Array Slot, lv_has ls 3 [(0, .ref (w 0))] → W p l e ({ frames := 2, cells := 0, slots := 0, locals := 48 } : Room) s m args below meth c H locs 0 0 (MQ below (va_Qv (fun u : MS => u = v) (fun u t => va_P D vwC (mW cs w u) t.heap) (mA w)) args s 0 0 (mA w)) (F0 m 54 ls []) := by
              clear hv
              intro O9 i0 hv H locs hP hS ls hl
              unfold CX8_readPrint_54 at hv
              refine lv_aload_n hx hb dX8_readPrint_54 rfl (lv_at hl 0 rfl) ?_
              refine lv_aload_n hx hb dX8_readPrint_55 rfl (lv_at hl 0 rfl) ?_
              refine ro_i (sX8_here O9) (run_c (va_runV (As := []) (rest := [.ref (w 0)]) ⟨hx, hb, hml, hown, hts⟩ (c_X8_here l D cs w O9 i0) (cwV 0 hts (good_V w_ml_X8_116 w_im_X8_here w_se_X8_here w_in_X8 w_co_X8_here) rfl rfl rfl ⟨rfl, hd_X8_here⟩ ⟨Nat.le_of_ble_eq_true rfl, Nat.le_of_ble_eq_true rfl⟩) (pe_W (C := RX8) (T := TX8) (N := 14) (ci := 8) (q0 := 0) hP hE rfl rfl) rfl rfl hl.1 rfl (lv_room (Nat.le_of_ble_eq_true rfl)) dX8_readPrint_56 ⟨Nat.zero_le _, Nat.zero_le _⟩)) ?_
              refine lv_bipush (v := 110) hx hb dX8_readPrint_59 (by decide) ?_
              refine join_i (J := 69) (ls := ls) (rest := [.ref (w 0)]) (b2i (if (sX8_here O9) = 110 then true else false)) ?_ (fun hJ => ?_)
              · obtain ⟨G69, hG69⟩ : ∃ G, sX8_take O9 (if (sX8_here O9) = 110 then true else false) = G := ⟨_, rfl⟩
                have k69 := (c_X8_take l D cs w O9 (if (sX8_here O9) = 110 then true else false) hd)
                rw [hG69] at k69
                rw [hG69] at hv
                refine w_v (G69) (va_runV (As := [.int (b2i (if (sX8_here O9) = 110 then true else false))]) (rest := []) ⟨hx, hb, hml, hown, hts⟩ k69 (cwV 1 hts (good_V w_ml_X8_120 w_im_X8_take w_se_X8_take w_in_X8 w_co_X8_take) rfl rfl rfl ⟨rfl, hd_X8_take⟩ ⟨Nat.le_of_ble_eq_true rfl, Nat.le_of_ble_eq_true rfl⟩) (pe_W (C := RX8) (T := TX8) (N := 14) (ci := 8) (q0 := 0) hP hE rfl rfl) rfl rfl hl.1 rfl (lv_room (Nat.le_of_ble_eq_true rfl)) dX8_readPrint_69 ⟨Nat.zero_le _, Nat.zero_le _⟩) hS (fun _ _ h => h) (fun _ h => h) (fun t locs hB hz hk hS => ?_)
                have hP : va_P D vwC (mW cs w (G69)) t.heap := hB
                have CUT : ∀ (O9 : MS), (RI O9) → CX8_readPrint_72 M O9 = v → ∀ (H : Heap) (locs : List Loc), va_P D vwC (mW cs w O9) H → va_S (mA w) s.heap H locs → ∀ ls : Array Slot, lv_has ls 3 [(0, .ref (w 0))] → W p l e ({ frames := 2, cells := 0, slots := 0, locals := 48 } : Room) s m args below meth c H locs 0 0 (MQ below (va_Qv (fun u : MS => u = v) (fun u t => va_P D vwC (mW cs w u) t.heap) (mA w)) args s 0 0 (mA w)) (F0 m 72 ls []) := by
                  clear hv
                  intro O9 i0 hv H locs hP hS ls hl
                  unfold CX8_readPrint_72 at hv
                  refine lv_aload_n hx hb dX8_readPrint_72 rfl (lv_at hl 0 rfl) ?_
                  refine lv_aload_n hx hb dX8_readPrint_73 rfl (lv_at hl 0 rfl) ?_
                  refine ro_i (sX8_here O9) (run_c (va_runV (As := []) (rest := [.ref (w 0)]) ⟨hx, hb, hml, hown, hts⟩ (c_X8_here l D cs w O9 i0) (cwV 0 hts (good_V w_ml_X8_116 w_im_X8_here w_se_X8_here w_in_X8 w_co_X8_here) rfl rfl rfl ⟨rfl, hd_X8_here⟩ ⟨Nat.le_of_ble_eq_true rfl, Nat.le_of_ble_eq_true rfl⟩) (pe_W (C := RX8) (T := TX8) (N := 14) (ci := 8) (q0 := 0) hP hE rfl rfl) rfl rfl hl.1 rfl (lv_room (Nat.le_of_ble_eq_true rfl)) dX8_readPrint_74 ⟨Nat.zero_le _, Nat.zero_le _⟩)) ?_
                  refine lv_bipush (v := 116) hx hb dX8_readPrint_77 (by decide) ?_
                  refine join_i (J := 87) (ls := ls) (rest := [.ref (w 0)]) (b2i (if (sX8_here O9) = 116 then true else false)) ?_ (fun hJ => ?_)
                  · obtain ⟨G87, hG87⟩ : ∃ G, sX8_take O9 (if (sX8_here O9) = 116 then true else false) = G := ⟨_, rfl⟩
                    have k87 := (c_X8_take l D cs w O9 (if (sX8_here O9) = 116 then true else false) hd)
                    rw [hG87] at k87
                    rw [hG87] at hv
                    refine w_v (G87) (va_runV (As := [.int (b2i (if (sX8_here O9) = 116 then true else false))]) (rest := []) ⟨hx, hb, hml, hown, hts⟩ k87 (cwV 1 hts (good_V w_ml_X8_120 w_im_X8_take w_se_X8_take w_in_X8 w_co_X8_take) rfl rfl rfl ⟨rfl, hd_X8_take⟩ ⟨Nat.le_of_ble_eq_true rfl, Nat.le_of_ble_eq_true rfl⟩) (pe_W (C := RX8) (T := TX8) (N := 14) (ci := 8) (q0 := 0) hP hE rfl rfl) rfl rfl hl.1 rfl (lv_room (Nat.le_of_ble_eq_true rfl)) dX8_readPrint_87 ⟨Nat.zero_le _, Nat.zero_le _⟩) hS (fun _ _ h => h) (fun _ h => h) (fun t locs hB hz hk hS => ?_)
                    have hP : va_P D vwC (mW cs w (G87)) t.heap := hB
                    have CUT : ∀ (O9 : MS), (RI O9) → CX8_readPrint_90 M O9 = v → ∀ (H : Heap) (locs : List Loc), va_P D vwC (mW cs w O9) H → va_S (mA w) s.heap H locs → ∀ ls : Array Slot, lv_has ls 3 [(0, .ref (w 0))] → W p l e ({ frames := 2, cells := 0, slots := 0, locals := 48 } : Room) s m args below meth c H locs 0 0 (MQ below (va_Qv (fun u : MS => u = v) (fun u t => va_P D vwC (mW cs w u) t.heap) (mA w)) args s 0 0 (mA w)) (F0 m 90 ls []) := by
                      clear hv
                      intro O9 i0 hv H locs hP hS ls hl
                      unfold CX8_readPrint_90 at hv
                      refine lv_aload_n hx hb dX8_readPrint_90 rfl (lv_at hl 0 rfl) ?_
                      refine lv_iconst (v := 0) hx hb dX8_readPrint_91 (by decide) ?_
                      refine lv_bipush (v := 9) hx hb dX8_readPrint_92 (by decide) ?_
                      obtain ⟨G94, hG94⟩ : ∃ G, sX8_digit O9 0 9 = G := ⟨_, rfl⟩
                      have k94 := (c_X8_digit l D cs w O9 0 9 hd i0)
                      rw [hG94] at k94
                      rw [hG94] at hv
                      refine w_i (G94) (va_runV (As := [.int 0, .int 9]) (rest := []) ⟨hx, hb, hml, hown, hts⟩ k94 (cwV 2 hts (good_V w_ml_X8_124 w_im_X8_digit w_se_X8_digit w_in_X8 w_co_X8_digit) rfl rfl rfl ⟨rfl, hd_X8_digit⟩ ⟨Nat.le_of_ble_eq_true rfl, Nat.le_of_ble_eq_true rfl⟩) (pe_W (C := RX8) (T := TX8) (N := 14) (ci := 8) (q0 := 0) hP hE rfl rfl) rfl rfl hl.1 rfl (lv_room (Nat.le_of_ble_eq_true rfl)) dX8_readPrint_94 ⟨Nat.zero_le _, Nat.zero_le _⟩) hS (fun _ _ h => h) (fun _ h => h) (fun t locs hB hz hk hS => ?_)
                      have hP : va_P D vwC (mW cs w ((G94).2)) t.heap := hB
                      refine lv_istore_n (lv' := [(1, .int ((G94).1)), (0, .ref (w 0))]) hx hb dX8_readPrint_97 rfl hl (by decide) rfl (fun ls hl => ?_)
                      have CUT : ∀ (x1 : Int32) (O9 : MS), (RI O9) → CX8_readPrint_98 M x1 O9 = v → ∀ (H : Heap) (locs : List Loc), va_P D vwC (mW cs w O9) H → va_S (mA w) s.heap H locs → ∀ ls : Array Slot, lv_has ls 3 [(0, .ref (w 0)), (1, .int x1)] → W p l e ({ frames := 2, cells := 0, slots := 0, locals := 48 } : Room) s m args below meth c H locs 0 0 (MQ below (va_Qv (fun u : MS => u = v) (fun u t => va_P D vwC (mW cs w u) t.heap) (mA w)) args s 0 0 (mA w)) (F0 m 98 ls []) := by
                        clear hv
                        intro x1 O9 i0 hv H locs hP hS ls hl
                        unfold CX8_readPrint_98 at hv
                        refine lv_aload_n hx hb dX8_readPrint_98 rfl (lv_at hl 0 rfl) ?_
                        refine lv_aload_n hx hb dX8_readPrint_99 rfl (lv_at hl 0 rfl) ?_
                        refine ro_i (sX8_here O9) (run_c (va_runV (As := []) (rest := [.ref (w 0)]) ⟨hx, hb, hml, hown, hts⟩ (c_X8_here l D cs w O9 i0) (cwV 0 hts (good_V w_ml_X8_116 w_im_X8_here w_se_X8_here w_in_X8 w_co_X8_here) rfl rfl rfl ⟨rfl, hd_X8_here⟩ ⟨Nat.le_of_ble_eq_true rfl, Nat.le_of_ble_eq_true rfl⟩) (pe_W (C := RX8) (T := TX8) (N := 14) (ci := 8) (q0 := 0) hP hE rfl rfl) rfl rfl hl.1 rfl (lv_room (Nat.le_of_ble_eq_true rfl)) dX8_readPrint_100 ⟨Nat.zero_le _, Nat.zero_le _⟩)) ?_
                        refine lv_bipush (v := 64) hx hb dX8_readPrint_103 (by decide) ?_
                        refine join_i (J := 113) (ls := ls) (rest := [.ref (w 0)]) (b2i (if (sX8_here O9) = 64 then true else false)) ?_ (fun hJ => ?_)
                        · obtain ⟨G113, hG113⟩ : ∃ G, sX8_take O9 (if (sX8_here O9) = 64 then true else false) = G := ⟨_, rfl⟩
                          have k113 := (c_X8_take l D cs w O9 (if (sX8_here O9) = 64 then true else false) hd)
                          rw [hG113] at k113
                          rw [hG113] at hv
                          refine w_v (G113) (va_runV (As := [.int (b2i (if (sX8_here O9) = 64 then true else false))]) (rest := []) ⟨hx, hb, hml, hown, hts⟩ k113 (cwV 1 hts (good_V w_ml_X8_120 w_im_X8_take w_se_X8_take w_in_X8 w_co_X8_take) rfl rfl rfl ⟨rfl, hd_X8_take⟩ ⟨Nat.le_of_ble_eq_true rfl, Nat.le_of_ble_eq_true rfl⟩) (pe_W (C := RX8) (T := TX8) (N := 14) (ci := 8) (q0 := 0) hP hE rfl rfl) rfl rfl hl.1 rfl (lv_room (Nat.le_of_ble_eq_true rfl)) dX8_readPrint_113 ⟨Nat.zero_le _, Nat.zero_le _⟩) hS (fun _ _ h => h) (fun _ h => h) (fun t locs hB hz hk hS => ?_)
                          have hP : va_P D vwC (mW cs w (G113)) t.heap := hB
                          have CUT : ∀ (x1 : Int32) (O9 : MS), (RI O9) → CX8_readPrint_116 M x1 O9 = v → ∀ (H : Heap) (locs : List Loc), va_P D vwC (mW cs w O9) H → va_S (mA w) s.heap H locs → ∀ ls : Array Slot, lv_has ls 3 [(0, .ref (w 0)), (1, .int x1)] → W p l e ({ frames := 2, cells := 0, slots := 0, locals := 48 } : Room) s m args below meth c H locs 0 0 (MQ below (va_Qv (fun u : MS => u = v) (fun u t => va_P D vwC (mW cs w u) t.heap) (mA w)) args s 0 0 (mA w)) (F0 m 116 ls []) := by
                            clear hv
                            intro x1 O9 i0 hv H locs hP hS ls hl
                            unfold CX8_readPrint_116 at hv
                            refine lv_aload_n hx hb dX8_readPrint_116 rfl (lv_at hl 0 rfl) ?_
                            refine lv_iconst (v := 0) hx hb dX8_readPrint_117 (by decide) ?_
                            refine lv_iconst (v := 3) hx hb dX8_readPrint_118 (by decide) ?_
                            obtain ⟨G119, hG119⟩ : ∃ G, sX8_digit O9 0 3 = G := ⟨_, rfl⟩
                            have k119 := (c_X8_digit l D cs w O9 0 3 hd i0)
                            rw [hG119] at k119
                            rw [hG119] at hv
                            refine w_i (G119) (va_runV (As := [.int 0, .int 3]) (rest := []) ⟨hx, hb, hml, hown, hts⟩ k119 (cwV 2 hts (good_V w_ml_X8_124 w_im_X8_digit w_se_X8_digit w_in_X8 w_co_X8_digit) rfl rfl rfl ⟨rfl, hd_X8_digit⟩ ⟨Nat.le_of_ble_eq_true rfl, Nat.le_of_ble_eq_true rfl⟩) (pe_W (C := RX8) (T := TX8) (N := 14) (ci := 8) (q0 := 0) hP hE rfl rfl) rfl rfl hl.1 rfl (lv_room (Nat.le_of_ble_eq_true rfl)) dX8_readPrint_119 ⟨Nat.zero_le _, Nat.zero_le _⟩) hS (fun _ _ h => h) (fun _ h => h) (fun t locs hB hz hk hS => ?_)
                            have hP : va_P D vwC (mW cs w ((G119).2)) t.heap := hB
                            refine lv_istore_n (lv' := [(2, .int ((G119).1)), (0, .ref (w 0)), (1, .int x1)]) hx hb dX8_readPrint_122 rfl hl (by decide) rfl (fun ls hl => ?_)
                            have CUT : ∀ (x1 : Int32) (x2 : Int32) (O9 : MS), (RI O9) → CX8_readPrint_123 M x1 x2 O9 = v → ∀ (H : Heap) (locs : List Loc), va_P D vwC (mW cs w O9) H → va_S (mA w) s.heap H locs → ∀ ls : Array Slot, lv_has ls 3 [(0, .ref (w 0)), (1, .int x1), (2, .int x2)] → W p l e ({ frames := 2, cells := 0, slots := 0, locals := 48 } : Room) s m args below meth c H locs 0 0 (MQ below (va_Qv (fun u : MS => u = v) (fun u t => va_P D vwC (mW cs w u) t.heap) (mA w)) args s 0 0 (mA w)) (F0 m 123 ls []) := by
                              clear hv
                              intro x1 x2 O9 i0 hv H locs hP hS ls hl
                              unfold CX8_readPrint_123 at hv
                              refine lv_aload_n hx hb dX8_readPrint_123 rfl (lv_at hl 0 rfl) ?_
                              refine lv_aload_n hx hb dX8_readPrint_124 rfl (lv_at hl 0 rfl) ?_
                              obtain ⟨G125, hG125⟩ : ∃ G, sX8_end O9 = G := ⟨_, rfl⟩
                              have k125 := (c_X8_end l D cs w O9 hd i0)
                              rw [hG125] at k125
                              rw [hG125] at hv
                              refine w_b (G125) (va_runV (As := []) (rest := [.ref (w 0)]) ⟨hx, hb, hml, hown, hts⟩ k125 (cwV 0 hts (good_V w_ml_X8_135 w_im_X8_end w_se_X8_end w_in_X8 w_co_X8_end) rfl rfl rfl ⟨rfl, hd_X8_end⟩ ⟨Nat.le_of_ble_eq_true rfl, Nat.le_of_ble_eq_true rfl⟩) (pe_W (C := RX8) (T := TX8) (N := 14) (ci := 8) (q0 := 0) hP hE rfl rfl) rfl rfl hl.1 rfl (lv_room (Nat.le_of_ble_eq_true rfl)) dX8_readPrint_125 ⟨Nat.zero_le _, Nat.zero_le _⟩) hS (fun _ _ h => h) (fun _ h => h) (fun t locs hB hz hk hS => ?_)
                              have hP : va_P D vwC (mW cs w ((G125).2)) t.heap := hB
                              have g1 : RI G125.2 := by rw [← hG125]; exact (PR_end i0).1
                              refine join_i (J := 157) (ls := ls) (rest := [.ref (w 0)]) (b2i (if ((G125).1) = true then (if (sX8_hasSheet (((G125).2).1.2 3) x1) = true then (if (sX8_canPrint (((G125).2).1.2 3)) = true then true else false) else false) else false)) ?_ (fun hJ => ?_)
                              · obtain ⟨G157, hG157⟩ : ∃ G, sX8_goes ((G125).2) (if ((G125).1) = true then (if (sX8_hasSheet (((G125).2).1.2 3) x1) = true then (if (sX8_canPrint (((G125).2).1.2 3)) = true then true else false) else false) else false) = G := ⟨_, rfl⟩
                                have k157 := (c_X8_goes l D cs w ((G125).2) (if ((G125).1) = true then (if (sX8_hasSheet (((G125).2).1.2 3) x1) = true then (if (sX8_canPrint (((G125).2).1.2 3)) = true then true else false) else false) else false) hd)
                                rw [hG157] at k157
                                rw [hG157] at hv
                                refine w_b (G157) (va_runV (As := [.int (b2i (if ((G125).1) = true then (if (sX8_hasSheet (((G125).2).1.2 3) x1) = true then (if (sX8_canPrint (((G125).2).1.2 3)) = true then true else false) else false) else false))]) (rest := []) ⟨hx, hb, hml, hown, hts⟩ k157 (cwV 1 hts (good_V w_ml_X8_146 w_im_X8_goes w_se_X8_goes w_in_X8 w_co_X8_goes) rfl rfl rfl ⟨rfl, hd_X8_goes⟩ ⟨Nat.le_of_ble_eq_true rfl, Nat.le_of_ble_eq_true rfl⟩) (pe_W (C := RX8) (T := TX8) (N := 14) (ci := 8) (q0 := 0) hP hE rfl rfl) rfl rfl hl.1 rfl (lv_room (Nat.le_of_ble_eq_true rfl)) dX8_readPrint_157 ⟨Nat.zero_le _, Nat.zero_le _⟩) hS (fun _ _ h => h) (fun _ h => h) (fun t locs hB hz hk hS => ?_)
                                have hP : va_P D vwC (mW cs w ((G157).2)) t.heap := hB
                                refine lv_if_eq (tgt := 173) hx hb dX8_readPrint_160 (by decide) (fun c160 => ?_) (fun c160 => ?_)
                                · have c160 := b2i_f c160
                                  have hv := (if_neg c160).symm.trans hv
                                  exact W.vret hx hb hr (fun t ht hW => ⟨⟨((G157).2), rfl, hv, pw ht hP⟩, hS.F ht⟩) hS.2.2 dX8_readPrint_173 (hlocks := hlocks)
                                · have c160 := b2i_t c160
                                  have hv := (if_pos c160).symm.trans hv
                                  have f1 := goes_t hG157 c160
                                  have f2 := ra_t f1
                                  refine lv_aload_n hx hb dX8_readPrint_163 rfl (lv_at hl 0 rfl) ?_
                                  refine va_get (D := D) (ci := 8) (v := .ref (w 3)) (C := RX8) (T := TX8) (N := 14) hx hb hts iw_X8 hown hK hP 0 rfl rfl 3 (by decide) (hts _ w_fl_X8_16) (fun _ h9 => h9) rfl dX8_readPrint_164 ?_
                                  refine lv_iload_n hx hb dX8_readPrint_167 rfl (lv_at hl 1 rfl) ?_
                                  refine lv_iload_n hx hb dX8_readPrint_168 rfl (lv_at hl 2 rfl) ?_
                                  obtain ⟨G169, hG169⟩ : ∃ G, sX8_goPrint (((G157).2).1.2 3) x1 x2 = G := ⟨_, rfl⟩
                                  have k169 := (c_X8_goPrint l D cs (w 3) (((G157).2).1.2 3) x1 x2 (by rw [goes_r hG157]; exact cp_in g1.2 f2.2) ((hasS_t g1.2.1.1 f2.1).v g1.2))
                                  rw [hG169] at k169
                                  rw [hG169] at hv
                                  refine w_i (G169) (va_runS (As := [.ref (w 3), .int x1, .int x2]) (rest := []) ⟨hx, hb, hml, hown, hts⟩ k169 (cwS 3 hts (good_S w_ml_X8_175 w_st_X8_goPrint w_in_X8 w_co_X8_goPrint) rfl rfl rfl ⟨rfl, hd_X8_goPrint⟩ ⟨Nat.le_of_ble_eq_true rfl, Nat.le_of_ble_eq_true rfl⟩) (pe_S (hP.sub (ws' := rowW cs (w 3) (((G157).2).1.2 3)) [3] rfl) hE) rfl rfl hl.1 rfl (lv_room (Nat.le_of_ble_eq_true rfl)) dX8_readPrint_169 ⟨Nat.zero_le _, Nat.zero_le _⟩) hS (fun _ _ h => ⟨3, by decide, h⟩) (fun _ h => ⟨3, by decide, h⟩) (fun t locs hB hz hk hS => ?_)
                                  have hP : va_P D vwC (mW cs w (msA ((G157).2) 3 ((G169).2))) t.heap := m_up3 hd hP hk hB
                                  refine lv_pop hx hb dX8_readPrint_172 rfl ?_
                                  exact W.vret hx hb hr (fun t ht hW => ⟨⟨(msA ((G157).2) 3 ((G169).2)), rfl, hv, pw ht hP⟩, hS.F ht⟩) hS.2.2 dX8_readPrint_173 (hlocks := hlocks)
                              · refine lv_if_eq (tgt := 156) hx hb dX8_readPrint_128 (by decide) (fun c128 => ?_) (fun c128 => ?_)
                                · have c128 := b2i_f c128
                                  refine lv_iconst (v := 0) hx hb dX8_readPrint_156 (by decide) ?_
                                  exact hJ _ (congrArg b2i ((if_neg c128).trans rfl))
                                · have c128 := b2i_t c128
                                  refine lv_aload_n hx hb dX8_readPrint_131 rfl (lv_at hl 0 rfl) ?_
                                  refine va_get (D := D) (ci := 8) (v := .ref (w 3)) (C := RX8) (T := TX8) (N := 14) hx hb hts iw_X8 hown hK hP 0 rfl rfl 3 (by decide) (hts _ w_fl_X8_16) (fun _ h9 => h9) rfl dX8_readPrint_132 ?_
                                  refine lv_iload_n hx hb dX8_readPrint_135 rfl (lv_at hl 1 rfl) ?_
                                  refine ro_i (b2i (sX8_hasSheet (((G125).2).1.2 3) x1)) (run_c (va_runS (As := [.ref (w 3), .int x1]) (rest := [.ref (w 0)]) ⟨hx, hb, hml, hown, hts⟩ (c_X8_hasSheet l D cs (w 3) (((G125).2).1.2 3) x1) (cwS 2 hts (good_S w_ml_X8_139 w_st_X8_hasSheet w_in_X8 w_co_X8_hasSheet) rfl rfl rfl ⟨rfl, hd_X8_hasSheet⟩ ⟨Nat.le_of_ble_eq_true rfl, Nat.le_of_ble_eq_true rfl⟩) (pe_S (hP.sub (ws' := rowW cs (w 3) (((G125).2).1.2 3)) [3] rfl) hE) rfl rfl hl.1 rfl (lv_room (Nat.le_of_ble_eq_true rfl)) dX8_readPrint_136 ⟨Nat.zero_le _, Nat.zero_le _⟩)) ?_
                                  refine lv_if_eq (tgt := 156) hx hb dX8_readPrint_139 (by decide) (fun c139 => ?_) (fun c139 => ?_)
                                  · have c139 := b2i_f c139
                                    refine lv_iconst (v := 0) hx hb dX8_readPrint_156 (by decide) ?_
                                    exact hJ _ (congrArg b2i ((if_pos c128).trans ((if_neg c139).trans rfl)))
                                  · have c139 := b2i_t c139
                                    refine lv_aload_n hx hb dX8_readPrint_142 rfl (lv_at hl 0 rfl) ?_
                                    refine va_get (D := D) (ci := 8) (v := .ref (w 3)) (C := RX8) (T := TX8) (N := 14) hx hb hts iw_X8 hown hK hP 0 rfl rfl 3 (by decide) (hts _ w_fl_X8_16) (fun _ h9 => h9) rfl dX8_readPrint_143 ?_
                                    refine ro_i (b2i (sX8_canPrint (((G125).2).1.2 3))) (run_c (va_runS (As := [.ref (w 3)]) (rest := [.ref (w 0)]) ⟨hx, hb, hml, hown, hts⟩ (c_X8_canPrint l D cs (w 3) (((G125).2).1.2 3)) (cwS 1 hts (good_S w_ml_X8_172 w_st_X8_canPrint w_in_X8 w_co_X8_canPrint) rfl rfl rfl ⟨rfl, hd_X8_canPrint⟩ ⟨Nat.le_of_ble_eq_true rfl, Nat.le_of_ble_eq_true rfl⟩) (pe_S (hP.sub (ws' := rowW cs (w 3) (((G125).2).1.2 3)) [3] rfl) hE) rfl rfl hl.1 rfl (lv_room (Nat.le_of_ble_eq_true rfl)) dX8_readPrint_146 ⟨Nat.zero_le _, Nat.zero_le _⟩)) ?_
                                    refine lv_if_eq (tgt := 156) hx hb dX8_readPrint_149 (by decide) (fun c149 => ?_) (fun c149 => ?_)
                                    · have c149 := b2i_f c149
                                      refine lv_iconst (v := 0) hx hb dX8_readPrint_156 (by decide) ?_
                                      exact hJ _ (congrArg b2i ((if_pos c128).trans ((if_pos c139).trans ((if_neg c149).trans rfl))))
                                    · have c149 := b2i_t c149
                                      refine lv_iconst (v := 1) hx hb dX8_readPrint_152 (by decide) ?_
                                      refine lv_goto (tgt := 157) hx hb dX8_readPrint_153 (by decide) ?_
                                      exact hJ _ (congrArg b2i ((if_pos c128).trans ((if_pos c139).trans ((if_pos c149).trans rfl))))
                            exact CUT x1 ((G119).1) ((G119).2) (by rw [← hG119]; exact (PR_digit i0 (by decide)).1) hv _ _ hP hS ls (lv_sub hl [1, 2, 0] rfl)
                          exact CUT x1 (G113) (by rw [← hG113]; exact (PR_th i0 (by decide)).1) hv _ _ hP hS ls (lv_sub hl [0, 1] rfl)
                        · refine lv_icmp_ne (tgt := 112) hx hb dX8_readPrint_105 (by decide) (fun c105 => ?_) (fun c105 => ?_)
                          · refine lv_iconst (v := 0) hx hb dX8_readPrint_112 (by decide) ?_
                            exact hJ _ (congrArg b2i ((if_neg c105).trans rfl))
                          · refine lv_iconst (v := 1) hx hb dX8_readPrint_108 (by decide) ?_
                            refine lv_goto (tgt := 113) hx hb dX8_readPrint_109 (by decide) ?_
                            exact hJ _ (congrArg b2i ((if_pos c105).trans rfl))
                      exact CUT ((G94).1) ((G94).2) (by rw [← hG94]; exact (PR_digit i0 (by decide)).1) hv _ _ hP hS ls (lv_sub hl [1, 0] rfl)
                    exact CUT (G87) (by rw [← hG87]; exact (PR_th i0 (by decide)).1) hv _ _ hP hS ls (lv_sub hl [0] rfl)
                  · refine lv_icmp_ne (tgt := 86) hx hb dX8_readPrint_79 (by decide) (fun c79 => ?_) (fun c79 => ?_)
                    · refine lv_iconst (v := 0) hx hb dX8_readPrint_86 (by decide) ?_
                      exact hJ _ (congrArg b2i ((if_neg c79).trans rfl))
                    · refine lv_iconst (v := 1) hx hb dX8_readPrint_82 (by decide) ?_
                      refine lv_goto (tgt := 87) hx hb dX8_readPrint_83 (by decide) ?_
                      exact hJ _ (congrArg b2i ((if_pos c79).trans rfl))
                exact CUT (G69) (by rw [← hG69]; exact (PR_th i0 (by decide)).1) hv _ _ hP hS ls (lv_sub hl [0] rfl)
              · refine lv_icmp_ne (tgt := 68) hx hb dX8_readPrint_61 (by decide) (fun c61 => ?_) (fun c61 => ?_)
                · refine lv_iconst (v := 0) hx hb dX8_readPrint_68 (by decide) ?_
                  exact hJ _ (congrArg b2i ((if_neg c61).trans rfl))
                · refine lv_iconst (v := 1) hx hb dX8_readPrint_64 (by decide) ?_
                  refine lv_goto (tgt := 69) hx hb dX8_readPrint_65 (by decide) ?_
                  exact hJ _ (congrArg b2i ((if_pos c61).trans rfl))
            exact CUT (G51) (by rw [← hG51]; exact (PR_th i0 (by decide)).1) hv _ _ hP hS ls (lv_sub hl [0] rfl)
          · refine lv_icmp_ne (tgt := 50) hx hb dX8_readPrint_43 (by decide) (fun c43 => ?_) (fun c43 => ?_)
            · refine lv_iconst (v := 0) hx hb dX8_readPrint_50 (by decide) ?_
              exact hJ _ (congrArg b2i ((if_neg c43).trans rfl))
            · refine lv_iconst (v := 1) hx hb dX8_readPrint_46 (by decide) ?_
              refine lv_goto (tgt := 51) hx hb dX8_readPrint_47 (by decide) ?_
              exact hJ _ (congrArg b2i ((if_pos c43).trans rfl))
        exact CUT (G33) (by rw [← hG33]; exact (PR_th i0 (by decide)).1) hv _ _ hP hS ls (lv_sub hl [0] rfl)
      · refine lv_icmp_ne (tgt := 32) hx hb dX8_readPrint_25 (by decide) (fun c25 => ?_) (fun c25 => ?_)
        · refine lv_iconst (v := 0) hx hb dX8_readPrint_32 (by decide) ?_
          exact hJ _ (congrArg b2i ((if_neg c25).trans rfl))
        · refine lv_iconst (v := 1) hx hb dX8_readPrint_28 (by decide) ?_
          refine lv_goto (tgt := 33) hx hb dX8_readPrint_29 (by decide) ?_
          exact hJ _ (congrArg b2i ((if_pos c25).trans rfl))
    exact CUT (G15) (by rw [← hG15]; exact (PR_th hri (by decide)).1) hv _ _ hP hS ls (lv_sub hl [0] rfl)
  · refine lv_icmp_ne (tgt := 14) hx hb dX8_readPrint_7 (by decide) (fun c7 => ?_) (fun c7 => ?_)
    · refine lv_iconst (v := 0) hx hb dX8_readPrint_14 (by decide) ?_
      exact hJ _ (congrArg b2i ((if_neg c7).trans rfl))
    · refine lv_iconst (v := 1) hx hb dX8_readPrint_10 (by decide) ?_
      refine lv_goto (tgt := 15) hx hb dX8_readPrint_11 (by decide) ?_
      exact hJ _ (congrArg b2i ((if_pos c7).trans rfl))
theorem PR_readPrint {M : MS} (h : RI M) : PR M (sX8_readPrint M) := by
  have k123 : ∀ x1 x2 O9, RI O9 → PR O9 (CX8_readPrint_123 M x1 x2 O9) := by
    intro x1 x2 O9 h
    unfold CX8_readPrint_123
    have e := PR_end h
    refine pr_if (fun c => ?_) (fun _ => e.tr (PR_goes e.1))
    have f2 := ra_t (goes_t rfl c)
    refine (e.tr (PR_goes e.1)).tr (PR_row (PR_goes e.1).1 ?_)
    rw [goes_r rfl]
    exact MV_print _ e.1.2 (cp_in e.1.2 f2.2) (hasS_t e.1.2.1.1 f2.1)
  have k116 : ∀ x1 O9, RI O9 → PR O9 (CX8_readPrint_116 M x1 O9) := by
    intro x1 O9 h
    unfold CX8_readPrint_116
    exact (PR_digit h (by decide)).th (k123 _ _ _)
  have k98 : ∀ x1 O9, RI O9 → PR O9 (CX8_readPrint_98 M x1 O9) := by
    intro x1 O9 h
    unfold CX8_readPrint_98
    exact (PR_th h (by decide)).th (k116 _ _)
  have k90 : ∀ O9, RI O9 → PR O9 (CX8_readPrint_90 M O9) := by
    intro O9 h
    unfold CX8_readPrint_90
    exact (PR_digit h (by decide)).th (k98 _ _)
  have k72 : ∀ O9, RI O9 → PR O9 (CX8_readPrint_72 M O9) := by
    intro O9 h
    unfold CX8_readPrint_72
    exact (PR_th h (by decide)).th (k90 _)
  have k54 : ∀ O9, RI O9 → PR O9 (CX8_readPrint_54 M O9) := by
    intro O9 h
    unfold CX8_readPrint_54
    exact (PR_th h (by decide)).th (k72 _)
  have k36 : ∀ O9, RI O9 → PR O9 (CX8_readPrint_36 M O9) := by
    intro O9 h
    unfold CX8_readPrint_36
    exact (PR_th h (by decide)).th (k54 _)
  have k18 : ∀ O9, RI O9 → PR O9 (CX8_readPrint_18 M O9) := by
    intro O9 h
    unfold CX8_readPrint_18
    exact (PR_th h (by decide)).th (k36 _)
  unfold sX8_readPrint
  exact (PR_th h (by decide)).th (k18 _)
theorem hd_X8_readStamp : yX8_readStamp.cls ≠ "java/lang/invoke/MethodHandle" ∧ yX8_readStamp.cls ≠ "java/lang/invoke/VarHandle" ∧ (parseMethodDescriptor yX8_readStamp.desc).map (fun d => d.parameters.length) = some 0 := by decide +kernel
def CX8_readStamp_123 (M : MS) (x1 : Int32) (x2 : Int32) (O9 : MS) : MS := (if (((sX8_goes (((sX8_end O9)).2) (if (((sX8_end O9)).1) = true then (if (sX8_hasPrint ((((sX8_end O9)).2).1.2 3) x1) = true then (if (sX8_canStamp ((((sX8_end O9)).2).1.2 3) x1) = true then true else false) else false) else false))).1) = true then (msA (((sX8_goes (((sX8_end O9)).2) (if (((sX8_end O9)).1) = true then (if (sX8_hasPrint ((((sX8_end O9)).2).1.2 3) x1) = true then (if (sX8_canStamp ((((sX8_end O9)).2).1.2 3) x1) = true then true else false) else false) else false))).2) 3 (((sX8_goStamp ((((sX8_goes (((sX8_end O9)).2) (if (((sX8_end O9)).1) = true then (if (sX8_hasPrint ((((sX8_end O9)).2).1.2 3) x1) = true then (if (sX8_canStamp ((((sX8_end O9)).2).1.2 3) x1) = true then true else false) else false) else false))).2).1.2 3) x1 x2)).2)) else (((sX8_goes (((sX8_end O9)).2) (if (((sX8_end O9)).1) = true then (if (sX8_hasPrint ((((sX8_end O9)).2).1.2 3) x1) = true then (if (sX8_canStamp ((((sX8_end O9)).2).1.2 3) x1) = true then true else false) else false) else false))).2))
def CX8_readStamp_116 (M : MS) (x1 : Int32) (O9 : MS) : MS := (CX8_readStamp_123 M x1 (((sX8_digit O9 0 2)).1) (((sX8_digit O9 0 2)).2))
def CX8_readStamp_98 (M : MS) (x1 : Int32) (O9 : MS) : MS := (CX8_readStamp_116 M x1 ((sX8_take O9 (if (sX8_here O9) = 47 then true else false))))
def CX8_readStamp_90 (M : MS) (O9 : MS) : MS := (CX8_readStamp_98 M (((sX8_number O9 0 23)).1) (((sX8_number O9 0 23)).2))
def CX8_readStamp_72 (M : MS) (O9 : MS) : MS := (CX8_readStamp_90 M ((sX8_take O9 (if (sX8_here O9) = 112 then true else false))))
def CX8_readStamp_54 (M : MS) (O9 : MS) : MS := (CX8_readStamp_72 M ((sX8_take O9 (if (sX8_here O9) = 109 then true else false))))
def CX8_readStamp_36 (M : MS) (O9 : MS) : MS := (CX8_readStamp_54 M ((sX8_take O9 (if (sX8_here O9) = 97 then true else false))))
def CX8_readStamp_18 (M : MS) (O9 : MS) : MS := (CX8_readStamp_36 M ((sX8_take O9 (if (sX8_here O9) = 116 then true else false))))
def sX8_readStamp (M : MS) : MS := (CX8_readStamp_18 M ((sX8_take M (if (sX8_here M) = 115 then true else false))))
set_option maxHeartbeats 4000000 in
set_option maxRecDepth 100000 in
theorem c_X8_readStamp (l : Launch) (D : va_G) (cs : Nat → ClassId) (w : Nat → Nat) (M : MS) (hd : mD w) (hri : RI M) : Met l yX8_readStamp (wc yX8_readStamp cX8_readStamp 3 none) ({ frames := 3, cells := 0, slots := 0, locals := 72 } : Room) (va_Pc [.ref (w 0)] (PE D cs (mW cs w M))) (va_Qv (fun u : MS => u = (sX8_readStamp M)) (fun u t => va_P D vwC (mW cs w u) t.heap) (mA w)) 0 0 (mA w) := by
  obtain ⟨v, hv⟩ : ∃ v, sX8_readStamp M = v := ⟨_, rfl⟩
  rw [hv]
  refine met_o (lv := [(0, .ref (w 0))]) (by decide) (Nat.le_of_ble_eq_true rfl) rfl ?_
  intro p e s m args below meth c ls hx hb hr hml hts hown hlocks hin hP hE hl
  have hown : s.vm.findClass RX8 = some m.cls := hown
  have hK := hE.1
  have hP : va_P D vwC (mW cs w M) s.heap := hP
  have hS : va_S (mA w) s.heap s.heap [] := va_S.rf
  unfold sX8_readStamp at hv
  refine lv_aload_n hx hb dX8_readStamp_0 rfl (lv_at hl 0 rfl) ?_
  refine lv_aload_n hx hb dX8_readStamp_1 rfl (lv_at hl 0 rfl) ?_
  refine ro_i (sX8_here M) (run_c (va_runV (As := []) (rest := [.ref (w 0)]) ⟨hx, hb, hml, hown, hts⟩ (c_X8_here l D cs w M hri) (cwV 0 hts (good_V w_ml_X8_116 w_im_X8_here w_se_X8_here w_in_X8 w_co_X8_here) rfl rfl rfl ⟨rfl, hd_X8_here⟩ ⟨Nat.le_of_ble_eq_true rfl, Nat.le_of_ble_eq_true rfl⟩) (pe_W (C := RX8) (T := TX8) (N := 14) (ci := 8) (q0 := 0) hP hE rfl rfl) rfl rfl hl.1 rfl (lv_room (Nat.le_of_ble_eq_true rfl)) dX8_readStamp_2 ⟨Nat.zero_le _, Nat.zero_le _⟩)) ?_
  refine lv_bipush (v := 115) hx hb dX8_readStamp_5 (by decide) ?_
  refine join_i (J := 15) (ls := ls) (rest := [.ref (w 0)]) (b2i (if (sX8_here M) = 115 then true else false)) ?_ (fun hJ => ?_)
  · obtain ⟨G15, hG15⟩ : ∃ G, sX8_take M (if (sX8_here M) = 115 then true else false) = G := ⟨_, rfl⟩
    have k15 := (c_X8_take l D cs w M (if (sX8_here M) = 115 then true else false) hd)
    rw [hG15] at k15
    rw [hG15] at hv
    refine w_v (G15) (va_runV (As := [.int (b2i (if (sX8_here M) = 115 then true else false))]) (rest := []) ⟨hx, hb, hml, hown, hts⟩ k15 (cwV 1 hts (good_V w_ml_X8_120 w_im_X8_take w_se_X8_take w_in_X8 w_co_X8_take) rfl rfl rfl ⟨rfl, hd_X8_take⟩ ⟨Nat.le_of_ble_eq_true rfl, Nat.le_of_ble_eq_true rfl⟩) (pe_W (C := RX8) (T := TX8) (N := 14) (ci := 8) (q0 := 0) hP hE rfl rfl) rfl rfl hl.1 rfl (lv_room (Nat.le_of_ble_eq_true rfl)) dX8_readStamp_15 ⟨Nat.zero_le _, Nat.zero_le _⟩) hS (fun _ _ h => h) (fun _ h => h) (fun t locs hB hz hk hS => ?_)
    have hP : va_P D vwC (mW cs w (G15)) t.heap := hB
    have CUT : ∀ (O9 : MS), (RI O9) → CX8_readStamp_18 M O9 = v → ∀ (H : Heap) (locs : List Loc), va_P D vwC (mW cs w O9) H → va_S (mA w) s.heap H locs → ∀ ls : Array Slot, lv_has ls 3 [(0, .ref (w 0))] → W p l e ({ frames := 3, cells := 0, slots := 0, locals := 72 } : Room) s m args below meth c H locs 0 0 (MQ below (va_Qv (fun u : MS => u = v) (fun u t => va_P D vwC (mW cs w u) t.heap) (mA w)) args s 0 0 (mA w)) (F0 m 18 ls []) := by
      clear hv
      intro O9 i0 hv H locs hP hS ls hl
      unfold CX8_readStamp_18 at hv
      refine lv_aload_n hx hb dX8_readStamp_18 rfl (lv_at hl 0 rfl) ?_
      refine lv_aload_n hx hb dX8_readStamp_19 rfl (lv_at hl 0 rfl) ?_
      refine ro_i (sX8_here O9) (run_c (va_runV (As := []) (rest := [.ref (w 0)]) ⟨hx, hb, hml, hown, hts⟩ (c_X8_here l D cs w O9 i0) (cwV 0 hts (good_V w_ml_X8_116 w_im_X8_here w_se_X8_here w_in_X8 w_co_X8_here) rfl rfl rfl ⟨rfl, hd_X8_here⟩ ⟨Nat.le_of_ble_eq_true rfl, Nat.le_of_ble_eq_true rfl⟩) (pe_W (C := RX8) (T := TX8) (N := 14) (ci := 8) (q0 := 0) hP hE rfl rfl) rfl rfl hl.1 rfl (lv_room (Nat.le_of_ble_eq_true rfl)) dX8_readStamp_20 ⟨Nat.zero_le _, Nat.zero_le _⟩)) ?_
      refine lv_bipush (v := 116) hx hb dX8_readStamp_23 (by decide) ?_
      refine join_i (J := 33) (ls := ls) (rest := [.ref (w 0)]) (b2i (if (sX8_here O9) = 116 then true else false)) ?_ (fun hJ => ?_)
      · obtain ⟨G33, hG33⟩ : ∃ G, sX8_take O9 (if (sX8_here O9) = 116 then true else false) = G := ⟨_, rfl⟩
        have k33 := (c_X8_take l D cs w O9 (if (sX8_here O9) = 116 then true else false) hd)
        rw [hG33] at k33
        rw [hG33] at hv
        refine w_v (G33) (va_runV (As := [.int (b2i (if (sX8_here O9) = 116 then true else false))]) (rest := []) ⟨hx, hb, hml, hown, hts⟩ k33 (cwV 1 hts (good_V w_ml_X8_120 w_im_X8_take w_se_X8_take w_in_X8 w_co_X8_take) rfl rfl rfl ⟨rfl, hd_X8_take⟩ ⟨Nat.le_of_ble_eq_true rfl, Nat.le_of_ble_eq_true rfl⟩) (pe_W (C := RX8) (T := TX8) (N := 14) (ci := 8) (q0 := 0) hP hE rfl rfl) rfl rfl hl.1 rfl (lv_room (Nat.le_of_ble_eq_true rfl)) dX8_readStamp_33 ⟨Nat.zero_le _, Nat.zero_le _⟩) hS (fun _ _ h => h) (fun _ h => h) (fun t locs hB hz hk hS => ?_)
        have hP : va_P D vwC (mW cs w (G33)) t.heap := hB
        have CUT : ∀ (O9 : MS), (RI O9) → CX8_readStamp_36 M O9 = v → ∀ (H : Heap) (locs : List Loc), va_P D vwC (mW cs w O9) H → va_S (mA w) s.heap H locs → ∀ ls : Array Slot, lv_has ls 3 [(0, .ref (w 0))] → W p l e ({ frames := 3, cells := 0, slots := 0, locals := 72 } : Room) s m args below meth c H locs 0 0 (MQ below (va_Qv (fun u : MS => u = v) (fun u t => va_P D vwC (mW cs w u) t.heap) (mA w)) args s 0 0 (mA w)) (F0 m 36 ls []) := by
          clear hv
          intro O9 i0 hv H locs hP hS ls hl
          unfold CX8_readStamp_36 at hv
          refine lv_aload_n hx hb dX8_readStamp_36 rfl (lv_at hl 0 rfl) ?_
          refine lv_aload_n hx hb dX8_readStamp_37 rfl (lv_at hl 0 rfl) ?_
          refine ro_i (sX8_here O9) (run_c (va_runV (As := []) (rest := [.ref (w 0)]) ⟨hx, hb, hml, hown, hts⟩ (c_X8_here l D cs w O9 i0) (cwV 0 hts (good_V w_ml_X8_116 w_im_X8_here w_se_X8_here w_in_X8 w_co_X8_here) rfl rfl rfl ⟨rfl, hd_X8_here⟩ ⟨Nat.le_of_ble_eq_true rfl, Nat.le_of_ble_eq_true rfl⟩) (pe_W (C := RX8) (T := TX8) (N := 14) (ci := 8) (q0 := 0) hP hE rfl rfl) rfl rfl hl.1 rfl (lv_room (Nat.le_of_ble_eq_true rfl)) dX8_readStamp_38 ⟨Nat.zero_le _, Nat.zero_le _⟩)) ?_
          refine lv_bipush (v := 97) hx hb dX8_readStamp_41 (by decide) ?_
          refine join_i (J := 51) (ls := ls) (rest := [.ref (w 0)]) (b2i (if (sX8_here O9) = 97 then true else false)) ?_ (fun hJ => ?_)
          · obtain ⟨G51, hG51⟩ : ∃ G, sX8_take O9 (if (sX8_here O9) = 97 then true else false) = G := ⟨_, rfl⟩
            have k51 := (c_X8_take l D cs w O9 (if (sX8_here O9) = 97 then true else false) hd)
            rw [hG51] at k51
            rw [hG51] at hv
            refine w_v (G51) (va_runV (As := [.int (b2i (if (sX8_here O9) = 97 then true else false))]) (rest := []) ⟨hx, hb, hml, hown, hts⟩ k51 (cwV 1 hts (good_V w_ml_X8_120 w_im_X8_take w_se_X8_take w_in_X8 w_co_X8_take) rfl rfl rfl ⟨rfl, hd_X8_take⟩ ⟨Nat.le_of_ble_eq_true rfl, Nat.le_of_ble_eq_true rfl⟩) (pe_W (C := RX8) (T := TX8) (N := 14) (ci := 8) (q0 := 0) hP hE rfl rfl) rfl rfl hl.1 rfl (lv_room (Nat.le_of_ble_eq_true rfl)) dX8_readStamp_51 ⟨Nat.zero_le _, Nat.zero_le _⟩) hS (fun _ _ h => h) (fun _ h => h) (fun t locs hB hz hk hS => ?_)
            have hP : va_P D vwC (mW cs w (G51)) t.heap := hB
            have CUT : ∀ (O9 : MS), (RI O9) → CX8_readStamp_54 M O9 = v → ∀ (H : Heap) (locs : List Loc), va_P D vwC (mW cs w O9) H → va_S (mA w) s.heap H locs → ∀ ls : Array Slot, lv_has ls 3 [(0, .ref (w 0))] → W p l e ({ frames := 3, cells := 0, slots := 0, locals := 72 } : Room) s m args below meth c H locs 0 0 (MQ below (va_Qv (fun u : MS => u = v) (fun u t => va_P D vwC (mW cs w u) t.heap) (mA w)) args s 0 0 (mA w)) (F0 m 54 ls []) := by
              clear hv
              intro O9 i0 hv H locs hP hS ls hl
              unfold CX8_readStamp_54 at hv
              refine lv_aload_n hx hb dX8_readStamp_54 rfl (lv_at hl 0 rfl) ?_
              refine lv_aload_n hx hb dX8_readStamp_55 rfl (lv_at hl 0 rfl) ?_
              refine ro_i (sX8_here O9) (run_c (va_runV (As := []) (rest := [.ref (w 0)]) ⟨hx, hb, hml, hown, hts⟩ (c_X8_here l D cs w O9 i0) (cwV 0 hts (good_V w_ml_X8_116 w_im_X8_here w_se_X8_here w_in_X8 w_co_X8_here) rfl rfl rfl ⟨rfl, hd_X8_here⟩ ⟨Nat.le_of_ble_eq_true rfl, Nat.le_of_ble_eq_true rfl⟩) (pe_W (C := RX8) (T := TX8) (N := 14) (ci := 8) (q0 := 0) hP hE rfl rfl) rfl rfl hl.1 rfl (lv_room (Nat.le_of_ble_eq_true rfl)) dX8_readStamp_56 ⟨Nat.zero_le _, Nat.zero_le _⟩)) ?_
              refine lv_bipush (v := 109) hx hb dX8_readStamp_59 (by decide) ?_
              refine join_i (J := 69) (ls := ls) (rest := [.ref (w 0)]) (b2i (if (sX8_here O9) = 109 then true else false)) ?_ (fun hJ => ?_)
              · obtain ⟨G69, hG69⟩ : ∃ G, sX8_take O9 (if (sX8_here O9) = 109 then true else false) = G := ⟨_, rfl⟩
                have k69 := (c_X8_take l D cs w O9 (if (sX8_here O9) = 109 then true else false) hd)
                rw [hG69] at k69
                rw [hG69] at hv
                refine w_v (G69) (va_runV (As := [.int (b2i (if (sX8_here O9) = 109 then true else false))]) (rest := []) ⟨hx, hb, hml, hown, hts⟩ k69 (cwV 1 hts (good_V w_ml_X8_120 w_im_X8_take w_se_X8_take w_in_X8 w_co_X8_take) rfl rfl rfl ⟨rfl, hd_X8_take⟩ ⟨Nat.le_of_ble_eq_true rfl, Nat.le_of_ble_eq_true rfl⟩) (pe_W (C := RX8) (T := TX8) (N := 14) (ci := 8) (q0 := 0) hP hE rfl rfl) rfl rfl hl.1 rfl (lv_room (Nat.le_of_ble_eq_true rfl)) dX8_readStamp_69 ⟨Nat.zero_le _, Nat.zero_le _⟩) hS (fun _ _ h => h) (fun _ h => h) (fun t locs hB hz hk hS => ?_)
                have hP : va_P D vwC (mW cs w (G69)) t.heap := hB
                have CUT : ∀ (O9 : MS), (RI O9) → CX8_readStamp_72 M O9 = v → ∀ (H : Heap) (locs : List Loc), va_P D vwC (mW cs w O9) H → va_S (mA w) s.heap H locs → ∀ ls : Array Slot, lv_has ls 3 [(0, .ref (w 0))] → W p l e ({ frames := 3, cells := 0, slots := 0, locals := 72 } : Room) s m args below meth c H locs 0 0 (MQ below (va_Qv (fun u : MS => u = v) (fun u t => va_P D vwC (mW cs w u) t.heap) (mA w)) args s 0 0 (mA w)) (F0 m 72 ls []) := by
                  clear hv
                  intro O9 i0 hv H locs hP hS ls hl
                  unfold CX8_readStamp_72 at hv
                  refine lv_aload_n hx hb dX8_readStamp_72 rfl (lv_at hl 0 rfl) ?_
                  refine lv_aload_n hx hb dX8_readStamp_73 rfl (lv_at hl 0 rfl) ?_
                  refine ro_i (sX8_here O9) (run_c (va_runV (As := []) (rest := [.ref (w 0)]) ⟨hx, hb, hml, hown, hts⟩ (c_X8_here l D cs w O9 i0) (cwV 0 hts (good_V w_ml_X8_116 w_im_X8_here w_se_X8_here w_in_X8 w_co_X8_here) rfl rfl rfl ⟨rfl, hd_X8_here⟩ ⟨Nat.le_of_ble_eq_true rfl, Nat.le_of_ble_eq_true rfl⟩) (pe_W (C := RX8) (T := TX8) (N := 14) (ci := 8) (q0 := 0) hP hE rfl rfl) rfl rfl hl.1 rfl (lv_room (Nat.le_of_ble_eq_true rfl)) dX8_readStamp_74 ⟨Nat.zero_le _, Nat.zero_le _⟩)) ?_
                  refine lv_bipush (v := 112) hx hb dX8_readStamp_77 (by decide) ?_
                  refine join_i (J := 87) (ls := ls) (rest := [.ref (w 0)]) (b2i (if (sX8_here O9) = 112 then true else false)) ?_ (fun hJ => ?_)
                  · obtain ⟨G87, hG87⟩ : ∃ G, sX8_take O9 (if (sX8_here O9) = 112 then true else false) = G := ⟨_, rfl⟩
                    have k87 := (c_X8_take l D cs w O9 (if (sX8_here O9) = 112 then true else false) hd)
                    rw [hG87] at k87
                    rw [hG87] at hv
                    refine w_v (G87) (va_runV (As := [.int (b2i (if (sX8_here O9) = 112 then true else false))]) (rest := []) ⟨hx, hb, hml, hown, hts⟩ k87 (cwV 1 hts (good_V w_ml_X8_120 w_im_X8_take w_se_X8_take w_in_X8 w_co_X8_take) rfl rfl rfl ⟨rfl, hd_X8_take⟩ ⟨Nat.le_of_ble_eq_true rfl, Nat.le_of_ble_eq_true rfl⟩) (pe_W (C := RX8) (T := TX8) (N := 14) (ci := 8) (q0 := 0) hP hE rfl rfl) rfl rfl hl.1 rfl (lv_room (Nat.le_of_ble_eq_true rfl)) dX8_readStamp_87 ⟨Nat.zero_le _, Nat.zero_le _⟩) hS (fun _ _ h => h) (fun _ h => h) (fun t locs hB hz hk hS => ?_)
                    have hP : va_P D vwC (mW cs w (G87)) t.heap := hB
                    have CUT : ∀ (O9 : MS), (RI O9) → CX8_readStamp_90 M O9 = v → ∀ (H : Heap) (locs : List Loc), va_P D vwC (mW cs w O9) H → va_S (mA w) s.heap H locs → ∀ ls : Array Slot, lv_has ls 3 [(0, .ref (w 0))] → W p l e ({ frames := 3, cells := 0, slots := 0, locals := 72 } : Room) s m args below meth c H locs 0 0 (MQ below (va_Qv (fun u : MS => u = v) (fun u t => va_P D vwC (mW cs w u) t.heap) (mA w)) args s 0 0 (mA w)) (F0 m 90 ls []) := by
                      clear hv
                      intro O9 i0 hv H locs hP hS ls hl
                      unfold CX8_readStamp_90 at hv
                      refine lv_aload_n hx hb dX8_readStamp_90 rfl (lv_at hl 0 rfl) ?_
                      refine lv_iconst (v := 0) hx hb dX8_readStamp_91 (by decide) ?_
                      refine lv_bipush (v := 23) hx hb dX8_readStamp_92 (by decide) ?_
                      obtain ⟨G94, hG94⟩ : ∃ G, sX8_number O9 0 23 = G := ⟨_, rfl⟩
                      have k94 := (c_X8_number l D cs w O9 0 23 hd i0 (by decide))
                      rw [hG94] at k94
                      rw [hG94] at hv
                      refine w_i (G94) (va_runV (As := [.int 0, .int 23]) (rest := []) ⟨hx, hb, hml, hown, hts⟩ k94 (cwV 2 hts (good_V w_ml_X8_156 w_im_X8_number w_se_X8_number w_in_X8 w_co_X8_number) rfl rfl rfl ⟨rfl, hd_X8_number⟩ ⟨Nat.le_of_ble_eq_true rfl, Nat.le_of_ble_eq_true rfl⟩) (pe_W (C := RX8) (T := TX8) (N := 14) (ci := 8) (q0 := 0) hP hE rfl rfl) rfl rfl hl.1 rfl (lv_room (Nat.le_of_ble_eq_true rfl)) dX8_readStamp_94 ⟨Nat.zero_le _, Nat.zero_le _⟩) hS (fun _ _ h => h) (fun _ h => h) (fun t locs hB hz hk hS => ?_)
                      have hP : va_P D vwC (mW cs w ((G94).2)) t.heap := hB
                      refine lv_istore_n (lv' := [(1, .int ((G94).1)), (0, .ref (w 0))]) hx hb dX8_readStamp_97 rfl hl (by decide) rfl (fun ls hl => ?_)
                      have CUT : ∀ (x1 : Int32) (O9 : MS), (RI O9) → CX8_readStamp_98 M x1 O9 = v → ∀ (H : Heap) (locs : List Loc), va_P D vwC (mW cs w O9) H → va_S (mA w) s.heap H locs → ∀ ls : Array Slot, lv_has ls 3 [(0, .ref (w 0)), (1, .int x1)] → W p l e ({ frames := 3, cells := 0, slots := 0, locals := 72 } : Room) s m args below meth c H locs 0 0 (MQ below (va_Qv (fun u : MS => u = v) (fun u t => va_P D vwC (mW cs w u) t.heap) (mA w)) args s 0 0 (mA w)) (F0 m 98 ls []) := by
                        clear hv
                        intro x1 O9 i0 hv H locs hP hS ls hl
                        unfold CX8_readStamp_98 at hv
                        refine lv_aload_n hx hb dX8_readStamp_98 rfl (lv_at hl 0 rfl) ?_
                        refine lv_aload_n hx hb dX8_readStamp_99 rfl (lv_at hl 0 rfl) ?_
                        refine ro_i (sX8_here O9) (run_c (va_runV (As := []) (rest := [.ref (w 0)]) ⟨hx, hb, hml, hown, hts⟩ (c_X8_here l D cs w O9 i0) (cwV 0 hts (good_V w_ml_X8_116 w_im_X8_here w_se_X8_here w_in_X8 w_co_X8_here) rfl rfl rfl ⟨rfl, hd_X8_here⟩ ⟨Nat.le_of_ble_eq_true rfl, Nat.le_of_ble_eq_true rfl⟩) (pe_W (C := RX8) (T := TX8) (N := 14) (ci := 8) (q0 := 0) hP hE rfl rfl) rfl rfl hl.1 rfl (lv_room (Nat.le_of_ble_eq_true rfl)) dX8_readStamp_100 ⟨Nat.zero_le _, Nat.zero_le _⟩)) ?_
                        refine lv_bipush (v := 47) hx hb dX8_readStamp_103 (by decide) ?_
                        refine join_i (J := 113) (ls := ls) (rest := [.ref (w 0)]) (b2i (if (sX8_here O9) = 47 then true else false)) ?_ (fun hJ => ?_)
                        · obtain ⟨G113, hG113⟩ : ∃ G, sX8_take O9 (if (sX8_here O9) = 47 then true else false) = G := ⟨_, rfl⟩
                          have k113 := (c_X8_take l D cs w O9 (if (sX8_here O9) = 47 then true else false) hd)
                          rw [hG113] at k113
                          rw [hG113] at hv
                          refine w_v (G113) (va_runV (As := [.int (b2i (if (sX8_here O9) = 47 then true else false))]) (rest := []) ⟨hx, hb, hml, hown, hts⟩ k113 (cwV 1 hts (good_V w_ml_X8_120 w_im_X8_take w_se_X8_take w_in_X8 w_co_X8_take) rfl rfl rfl ⟨rfl, hd_X8_take⟩ ⟨Nat.le_of_ble_eq_true rfl, Nat.le_of_ble_eq_true rfl⟩) (pe_W (C := RX8) (T := TX8) (N := 14) (ci := 8) (q0 := 0) hP hE rfl rfl) rfl rfl hl.1 rfl (lv_room (Nat.le_of_ble_eq_true rfl)) dX8_readStamp_113 ⟨Nat.zero_le _, Nat.zero_le _⟩) hS (fun _ _ h => h) (fun _ h => h) (fun t locs hB hz hk hS => ?_)
                          have hP : va_P D vwC (mW cs w (G113)) t.heap := hB
                          have CUT : ∀ (x1 : Int32) (O9 : MS), (RI O9) → CX8_readStamp_116 M x1 O9 = v → ∀ (H : Heap) (locs : List Loc), va_P D vwC (mW cs w O9) H → va_S (mA w) s.heap H locs → ∀ ls : Array Slot, lv_has ls 3 [(0, .ref (w 0)), (1, .int x1)] → W p l e ({ frames := 3, cells := 0, slots := 0, locals := 72 } : Room) s m args below meth c H locs 0 0 (MQ below (va_Qv (fun u : MS => u = v) (fun u t => va_P D vwC (mW cs w u) t.heap) (mA w)) args s 0 0 (mA w)) (F0 m 116 ls []) := by
                            clear hv
                            intro x1 O9 i0 hv H locs hP hS ls hl
                            unfold CX8_readStamp_116 at hv
                            refine lv_aload_n hx hb dX8_readStamp_116 rfl (lv_at hl 0 rfl) ?_
                            refine lv_iconst (v := 0) hx hb dX8_readStamp_117 (by decide) ?_
                            refine lv_iconst (v := 2) hx hb dX8_readStamp_118 (by decide) ?_
                            obtain ⟨G119, hG119⟩ : ∃ G, sX8_digit O9 0 2 = G := ⟨_, rfl⟩
                            have k119 := (c_X8_digit l D cs w O9 0 2 hd i0)
                            rw [hG119] at k119
                            rw [hG119] at hv
                            refine w_i (G119) (va_runV (As := [.int 0, .int 2]) (rest := []) ⟨hx, hb, hml, hown, hts⟩ k119 (cwV 2 hts (good_V w_ml_X8_124 w_im_X8_digit w_se_X8_digit w_in_X8 w_co_X8_digit) rfl rfl rfl ⟨rfl, hd_X8_digit⟩ ⟨Nat.le_of_ble_eq_true rfl, Nat.le_of_ble_eq_true rfl⟩) (pe_W (C := RX8) (T := TX8) (N := 14) (ci := 8) (q0 := 0) hP hE rfl rfl) rfl rfl hl.1 rfl (lv_room (Nat.le_of_ble_eq_true rfl)) dX8_readStamp_119 ⟨Nat.zero_le _, Nat.zero_le _⟩) hS (fun _ _ h => h) (fun _ h => h) (fun t locs hB hz hk hS => ?_)
                            have hP : va_P D vwC (mW cs w ((G119).2)) t.heap := hB
                            refine lv_istore_n (lv' := [(2, .int ((G119).1)), (0, .ref (w 0)), (1, .int x1)]) hx hb dX8_readStamp_122 rfl hl (by decide) rfl (fun ls hl => ?_)
                            have CUT : ∀ (x1 : Int32) (x2 : Int32) (O9 : MS), (RI O9) → CX8_readStamp_123 M x1 x2 O9 = v → ∀ (H : Heap) (locs : List Loc), va_P D vwC (mW cs w O9) H → va_S (mA w) s.heap H locs → ∀ ls : Array Slot, lv_has ls 3 [(0, .ref (w 0)), (1, .int x1), (2, .int x2)] → W p l e ({ frames := 3, cells := 0, slots := 0, locals := 72 } : Room) s m args below meth c H locs 0 0 (MQ below (va_Qv (fun u : MS => u = v) (fun u t => va_P D vwC (mW cs w u) t.heap) (mA w)) args s 0 0 (mA w)) (F0 m 123 ls []) := by
                              clear hv
                              intro x1 x2 O9 i0 hv H locs hP hS ls hl
                              unfold CX8_readStamp_123 at hv
                              refine lv_aload_n hx hb dX8_readStamp_123 rfl (lv_at hl 0 rfl) ?_
                              refine lv_aload_n hx hb dX8_readStamp_124 rfl (lv_at hl 0 rfl) ?_
                              obtain ⟨G125, hG125⟩ : ∃ G, sX8_end O9 = G := ⟨_, rfl⟩
                              have k125 := (c_X8_end l D cs w O9 hd i0)
                              rw [hG125] at k125
                              rw [hG125] at hv
                              refine w_b (G125) (va_runV (As := []) (rest := [.ref (w 0)]) ⟨hx, hb, hml, hown, hts⟩ k125 (cwV 0 hts (good_V w_ml_X8_135 w_im_X8_end w_se_X8_end w_in_X8 w_co_X8_end) rfl rfl rfl ⟨rfl, hd_X8_end⟩ ⟨Nat.le_of_ble_eq_true rfl, Nat.le_of_ble_eq_true rfl⟩) (pe_W (C := RX8) (T := TX8) (N := 14) (ci := 8) (q0 := 0) hP hE rfl rfl) rfl rfl hl.1 rfl (lv_room (Nat.le_of_ble_eq_true rfl)) dX8_readStamp_125 ⟨Nat.zero_le _, Nat.zero_le _⟩) hS (fun _ _ h => h) (fun _ h => h) (fun t locs hB hz hk hS => ?_)
                              have hP : va_P D vwC (mW cs w ((G125).2)) t.heap := hB
                              have g1 : RI G125.2 := by rw [← hG125]; exact (PR_end i0).1
                              refine join_i (J := 158) (ls := ls) (rest := [.ref (w 0)]) (b2i (if ((G125).1) = true then (if (sX8_hasPrint (((G125).2).1.2 3) x1) = true then (if (sX8_canStamp (((G125).2).1.2 3) x1) = true then true else false) else false) else false)) ?_ (fun hJ => ?_)
                              · obtain ⟨G158, hG158⟩ : ∃ G, sX8_goes ((G125).2) (if ((G125).1) = true then (if (sX8_hasPrint (((G125).2).1.2 3) x1) = true then (if (sX8_canStamp (((G125).2).1.2 3) x1) = true then true else false) else false) else false) = G := ⟨_, rfl⟩
                                have k158 := (c_X8_goes l D cs w ((G125).2) (if ((G125).1) = true then (if (sX8_hasPrint (((G125).2).1.2 3) x1) = true then (if (sX8_canStamp (((G125).2).1.2 3) x1) = true then true else false) else false) else false) hd)
                                rw [hG158] at k158
                                rw [hG158] at hv
                                refine w_b (G158) (va_runV (As := [.int (b2i (if ((G125).1) = true then (if (sX8_hasPrint (((G125).2).1.2 3) x1) = true then (if (sX8_canStamp (((G125).2).1.2 3) x1) = true then true else false) else false) else false))]) (rest := []) ⟨hx, hb, hml, hown, hts⟩ k158 (cwV 1 hts (good_V w_ml_X8_146 w_im_X8_goes w_se_X8_goes w_in_X8 w_co_X8_goes) rfl rfl rfl ⟨rfl, hd_X8_goes⟩ ⟨Nat.le_of_ble_eq_true rfl, Nat.le_of_ble_eq_true rfl⟩) (pe_W (C := RX8) (T := TX8) (N := 14) (ci := 8) (q0 := 0) hP hE rfl rfl) rfl rfl hl.1 rfl (lv_room (Nat.le_of_ble_eq_true rfl)) dX8_readStamp_158 ⟨Nat.zero_le _, Nat.zero_le _⟩) hS (fun _ _ h => h) (fun _ h => h) (fun t locs hB hz hk hS => ?_)
                                have hP : va_P D vwC (mW cs w ((G158).2)) t.heap := hB
                                refine lv_if_eq (tgt := 174) hx hb dX8_readStamp_161 (by decide) (fun c161 => ?_) (fun c161 => ?_)
                                · have c161 := b2i_f c161
                                  have hv := (if_neg c161).symm.trans hv
                                  exact W.vret hx hb hr (fun t ht hW => ⟨⟨((G158).2), rfl, hv, pw ht hP⟩, hS.F ht⟩) hS.2.2 dX8_readStamp_174 (hlocks := hlocks)
                                · have c161 := b2i_t c161
                                  have hv := (if_pos c161).symm.trans hv
                                  have f1 := goes_t hG158 c161
                                  have f2 := ra_t f1
                                  refine lv_aload_n hx hb dX8_readStamp_164 rfl (lv_at hl 0 rfl) ?_
                                  refine va_get (D := D) (ci := 8) (v := .ref (w 3)) (C := RX8) (T := TX8) (N := 14) hx hb hts iw_X8 hown hK hP 0 rfl rfl 3 (by decide) (hts _ w_fl_X8_16) (fun _ h9 => h9) rfl dX8_readStamp_165 ?_
                                  refine lv_iload_n hx hb dX8_readStamp_168 rfl (lv_at hl 1 rfl) ?_
                                  refine lv_iload_n hx hb dX8_readStamp_169 rfl (lv_at hl 2 rfl) ?_
                                  obtain ⟨G170, hG170⟩ : ∃ G, sX8_goStamp (((G158).2).1.2 3) x1 x2 = G := ⟨_, rfl⟩
                                  have k170 := (c_X8_goStamp l D cs (w 3) (((G158).2).1.2 3) x1 x2 ((hasP_t g1.2.2.1.1 f2.1).v g1.2))
                                  rw [hG170] at k170
                                  rw [hG170] at hv
                                  refine w_i (G170) (va_runS (As := [.ref (w 3), .int x1, .int x2]) (rest := []) ⟨hx, hb, hml, hown, hts⟩ k170 (cwS 3 hts (good_S w_ml_X8_184 w_st_X8_goStamp w_in_X8 w_co_X8_goStamp) rfl rfl rfl ⟨rfl, hd_X8_goStamp⟩ ⟨Nat.le_of_ble_eq_true rfl, Nat.le_of_ble_eq_true rfl⟩) (pe_S (hP.sub (ws' := rowW cs (w 3) (((G158).2).1.2 3)) [3] rfl) hE) rfl rfl hl.1 rfl (lv_room (Nat.le_of_ble_eq_true rfl)) dX8_readStamp_170 ⟨Nat.zero_le _, Nat.zero_le _⟩) hS (fun _ _ h => ⟨3, by decide, h⟩) (fun _ h => ⟨3, by decide, h⟩) (fun t locs hB hz hk hS => ?_)
                                  have hP : va_P D vwC (mW cs w (msA ((G158).2) 3 ((G170).2))) t.heap := m_up3 hd hP hk hB
                                  refine lv_pop hx hb dX8_readStamp_173 rfl ?_
                                  exact W.vret hx hb hr (fun t ht hW => ⟨⟨(msA ((G158).2) 3 ((G170).2)), rfl, hv, pw ht hP⟩, hS.F ht⟩) hS.2.2 dX8_readStamp_174 (hlocks := hlocks)
                              · refine lv_if_eq (tgt := 157) hx hb dX8_readStamp_128 (by decide) (fun c128 => ?_) (fun c128 => ?_)
                                · have c128 := b2i_f c128
                                  refine lv_iconst (v := 0) hx hb dX8_readStamp_157 (by decide) ?_
                                  exact hJ _ (congrArg b2i ((if_neg c128).trans rfl))
                                · have c128 := b2i_t c128
                                  refine lv_aload_n hx hb dX8_readStamp_131 rfl (lv_at hl 0 rfl) ?_
                                  refine va_get (D := D) (ci := 8) (v := .ref (w 3)) (C := RX8) (T := TX8) (N := 14) hx hb hts iw_X8 hown hK hP 0 rfl rfl 3 (by decide) (hts _ w_fl_X8_16) (fun _ h9 => h9) rfl dX8_readStamp_132 ?_
                                  refine lv_iload_n hx hb dX8_readStamp_135 rfl (lv_at hl 1 rfl) ?_
                                  refine ro_i (b2i (sX8_hasPrint (((G125).2).1.2 3) x1)) (run_c (va_runS (As := [.ref (w 3), .int x1]) (rest := [.ref (w 0)]) ⟨hx, hb, hml, hown, hts⟩ (c_X8_hasPrint l D cs (w 3) (((G125).2).1.2 3) x1) (cwS 2 hts (good_S w_ml_X8_178 w_st_X8_hasPrint w_in_X8 w_co_X8_hasPrint) rfl rfl rfl ⟨rfl, hd_X8_hasPrint⟩ ⟨Nat.le_of_ble_eq_true rfl, Nat.le_of_ble_eq_true rfl⟩) (pe_S (hP.sub (ws' := rowW cs (w 3) (((G125).2).1.2 3)) [3] rfl) hE) rfl rfl hl.1 rfl (lv_room (Nat.le_of_ble_eq_true rfl)) dX8_readStamp_136 ⟨Nat.zero_le _, Nat.zero_le _⟩)) ?_
                                  refine lv_if_eq (tgt := 157) hx hb dX8_readStamp_139 (by decide) (fun c139 => ?_) (fun c139 => ?_)
                                  · have c139 := b2i_f c139
                                    refine lv_iconst (v := 0) hx hb dX8_readStamp_157 (by decide) ?_
                                    exact hJ _ (congrArg b2i ((if_pos c128).trans ((if_neg c139).trans rfl)))
                                  · have c139 := b2i_t c139
                                    refine lv_aload_n hx hb dX8_readStamp_142 rfl (lv_at hl 0 rfl) ?_
                                    refine va_get (D := D) (ci := 8) (v := .ref (w 3)) (C := RX8) (T := TX8) (N := 14) hx hb hts iw_X8 hown hK hP 0 rfl rfl 3 (by decide) (hts _ w_fl_X8_16) (fun _ h9 => h9) rfl dX8_readStamp_143 ?_
                                    refine lv_iload_n hx hb dX8_readStamp_146 rfl (lv_at hl 1 rfl) ?_
                                    refine ro_i (b2i (sX8_canStamp (((G125).2).1.2 3) x1)) (run_c (va_runS (As := [.ref (w 3), .int x1]) (rest := [.ref (w 0)]) ⟨hx, hb, hml, hown, hts⟩ (c_X8_canStamp l D cs (w 3) (((G125).2).1.2 3) x1 ((hasP_t g1.2.2.1.1 c139).v g1.2)) (cwS 2 hts (good_S w_ml_X8_181 w_st_X8_canStamp w_in_X8 w_co_X8_canStamp) rfl rfl rfl ⟨rfl, hd_X8_canStamp⟩ ⟨Nat.le_of_ble_eq_true rfl, Nat.le_of_ble_eq_true rfl⟩) (pe_S (hP.sub (ws' := rowW cs (w 3) (((G125).2).1.2 3)) [3] rfl) hE) rfl rfl hl.1 rfl (lv_room (Nat.le_of_ble_eq_true rfl)) dX8_readStamp_147 ⟨Nat.zero_le _, Nat.zero_le _⟩)) ?_
                                    refine lv_if_eq (tgt := 157) hx hb dX8_readStamp_150 (by decide) (fun c150 => ?_) (fun c150 => ?_)
                                    · have c150 := b2i_f c150
                                      refine lv_iconst (v := 0) hx hb dX8_readStamp_157 (by decide) ?_
                                      exact hJ _ (congrArg b2i ((if_pos c128).trans ((if_pos c139).trans ((if_neg c150).trans rfl))))
                                    · have c150 := b2i_t c150
                                      refine lv_iconst (v := 1) hx hb dX8_readStamp_153 (by decide) ?_
                                      refine lv_goto (tgt := 158) hx hb dX8_readStamp_154 (by decide) ?_
                                      exact hJ _ (congrArg b2i ((if_pos c128).trans ((if_pos c139).trans ((if_pos c150).trans rfl))))
                            exact CUT x1 ((G119).1) ((G119).2) (by rw [← hG119]; exact (PR_digit i0 (by decide)).1) hv _ _ hP hS ls (lv_sub hl [1, 2, 0] rfl)
                          exact CUT x1 (G113) (by rw [← hG113]; exact (PR_th i0 (by decide)).1) hv _ _ hP hS ls (lv_sub hl [0, 1] rfl)
                        · refine lv_icmp_ne (tgt := 112) hx hb dX8_readStamp_105 (by decide) (fun c105 => ?_) (fun c105 => ?_)
                          · refine lv_iconst (v := 0) hx hb dX8_readStamp_112 (by decide) ?_
                            exact hJ _ (congrArg b2i ((if_neg c105).trans rfl))
                          · refine lv_iconst (v := 1) hx hb dX8_readStamp_108 (by decide) ?_
                            refine lv_goto (tgt := 113) hx hb dX8_readStamp_109 (by decide) ?_
                            exact hJ _ (congrArg b2i ((if_pos c105).trans rfl))
                      exact CUT ((G94).1) ((G94).2) (by rw [← hG94]; exact (PR_number i0 (by decide)).1) hv _ _ hP hS ls (lv_sub hl [1, 0] rfl)
                    exact CUT (G87) (by rw [← hG87]; exact (PR_th i0 (by decide)).1) hv _ _ hP hS ls (lv_sub hl [0] rfl)
                  · refine lv_icmp_ne (tgt := 86) hx hb dX8_readStamp_79 (by decide) (fun c79 => ?_) (fun c79 => ?_)
                    · refine lv_iconst (v := 0) hx hb dX8_readStamp_86 (by decide) ?_
                      exact hJ _ (congrArg b2i ((if_neg c79).trans rfl))
                    · refine lv_iconst (v := 1) hx hb dX8_readStamp_82 (by decide) ?_
                      refine lv_goto (tgt := 87) hx hb dX8_readStamp_83 (by decide) ?_
                      exact hJ _ (congrArg b2i ((if_pos c79).trans rfl))
                exact CUT (G69) (by rw [← hG69]; exact (PR_th i0 (by decide)).1) hv _ _ hP hS ls (lv_sub hl [0] rfl)
              · refine lv_icmp_ne (tgt := 68) hx hb dX8_readStamp_61 (by decide) (fun c61 => ?_) (fun c61 => ?_)
                · refine lv_iconst (v := 0) hx hb dX8_readStamp_68 (by decide) ?_
                  exact hJ _ (congrArg b2i ((if_neg c61).trans rfl))
                · refine lv_iconst (v := 1) hx hb dX8_readStamp_64 (by decide) ?_
                  refine lv_goto (tgt := 69) hx hb dX8_readStamp_65 (by decide) ?_
                  exact hJ _ (congrArg b2i ((if_pos c61).trans rfl))
            exact CUT (G51) (by rw [← hG51]; exact (PR_th i0 (by decide)).1) hv _ _ hP hS ls (lv_sub hl [0] rfl)
          · refine lv_icmp_ne (tgt := 50) hx hb dX8_readStamp_43 (by decide) (fun c43 => ?_) (fun c43 => ?_)
            · refine lv_iconst (v := 0) hx hb dX8_readStamp_50 (by decide) ?_
              exact hJ _ (congrArg b2i ((if_neg c43).trans rfl))
            · refine lv_iconst (v := 1) hx hb dX8_readStamp_46 (by decide) ?_
              refine lv_goto (tgt := 51) hx hb dX8_readStamp_47 (by decide) ?_
              exact hJ _ (congrArg b2i ((if_pos c43).trans rfl))
        exact CUT (G33) (by rw [← hG33]; exact (PR_th i0 (by decide)).1) hv _ _ hP hS ls (lv_sub hl [0] rfl)
      · refine lv_icmp_ne (tgt := 32) hx hb dX8_readStamp_25 (by decide) (fun c25 => ?_) (fun c25 => ?_)
        · refine lv_iconst (v := 0) hx hb dX8_readStamp_32 (by decide) ?_
          exact hJ _ (congrArg b2i ((if_neg c25).trans rfl))
        · refine lv_iconst (v := 1) hx hb dX8_readStamp_28 (by decide) ?_
          refine lv_goto (tgt := 33) hx hb dX8_readStamp_29 (by decide) ?_
          exact hJ _ (congrArg b2i ((if_pos c25).trans rfl))
    exact CUT (G15) (by rw [← hG15]; exact (PR_th hri (by decide)).1) hv _ _ hP hS ls (lv_sub hl [0] rfl)
  · refine lv_icmp_ne (tgt := 14) hx hb dX8_readStamp_7 (by decide) (fun c7 => ?_) (fun c7 => ?_)
    · refine lv_iconst (v := 0) hx hb dX8_readStamp_14 (by decide) ?_
      exact hJ _ (congrArg b2i ((if_neg c7).trans rfl))
    · refine lv_iconst (v := 1) hx hb dX8_readStamp_10 (by decide) ?_
      refine lv_goto (tgt := 15) hx hb dX8_readStamp_11 (by decide) ?_
      exact hJ _ (congrArg b2i ((if_pos c7).trans rfl))
theorem PR_readStamp {M : MS} (h : RI M) : PR M (sX8_readStamp M) := by
  have k123 : ∀ x1 x2 O9, RI O9 → PR O9 (CX8_readStamp_123 M x1 x2 O9) := by
    intro x1 x2 O9 h
    unfold CX8_readStamp_123
    have e := PR_end h
    refine pr_if (fun c => ?_) (fun _ => e.tr (PR_goes e.1))
    have f2 := ra_t (goes_t rfl c)
    refine (e.tr (PR_goes e.1)).tr (PR_row (PR_goes e.1).1 ?_)
    rw [goes_r rfl]
    exact MV_stamp _ e.1.2 ((hasP_t e.1.2.2.1.1 f2.1).v e.1.2)
  have k116 : ∀ x1 O9, RI O9 → PR O9 (CX8_readStamp_116 M x1 O9) := by
    intro x1 O9 h
    unfold CX8_readStamp_116
    exact (PR_digit h (by decide)).th (k123 _ _ _)
  have k98 : ∀ x1 O9, RI O9 → PR O9 (CX8_readStamp_98 M x1 O9) := by
    intro x1 O9 h
    unfold CX8_readStamp_98
    exact (PR_th h (by decide)).th (k116 _ _)
  have k90 : ∀ O9, RI O9 → PR O9 (CX8_readStamp_90 M O9) := by
    intro O9 h
    unfold CX8_readStamp_90
    exact (PR_number h (by decide)).th (k98 _ _)
  have k72 : ∀ O9, RI O9 → PR O9 (CX8_readStamp_72 M O9) := by
    intro O9 h
    unfold CX8_readStamp_72
    exact (PR_th h (by decide)).th (k90 _)
  have k54 : ∀ O9, RI O9 → PR O9 (CX8_readStamp_54 M O9) := by
    intro O9 h
    unfold CX8_readStamp_54
    exact (PR_th h (by decide)).th (k72 _)
  have k36 : ∀ O9, RI O9 → PR O9 (CX8_readStamp_36 M O9) := by
    intro O9 h
    unfold CX8_readStamp_36
    exact (PR_th h (by decide)).th (k54 _)
  have k18 : ∀ O9, RI O9 → PR O9 (CX8_readStamp_18 M O9) := by
    intro O9 h
    unfold CX8_readStamp_18
    exact (PR_th h (by decide)).th (k36 _)
  unfold sX8_readStamp
  exact (PR_th h (by decide)).th (k18 _)
